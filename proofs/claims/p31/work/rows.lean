section
/-- a private method of a class that the tables say can be made, by its rows of tables_1 -/
def lw_okq (q : MethodName × Nat) : Prop := (q.1.cls ≠ "java/lang/invoke/MethodHandle" ∧ q.1.cls ≠ "java/lang/invoke/VarHandle") ∧ Cond.instantiable q.1.cls q.2 ∈ tables_1 ∧ Cond.privateMethod q.1 ∈ tables_1 ∧ Cond.instanceMethod q.1 ∈ tables_1
theorem lw_p0 : lw_okq (⟨"LineLives$Present", "renew", "()V"⟩, 5) := ⟨⟨by decide +kernel, by decide +kernel⟩, List.mem_of_getElem? (i := 101) (by decide +kernel), List.mem_of_getElem? (i := 211) (by decide +kernel), List.mem_of_getElem? (i := 212) (by decide +kernel)⟩
theorem lw_p1 : lw_okq (⟨"LineLives$Tree", "renew", "()V"⟩, 6) := ⟨⟨by decide +kernel, by decide +kernel⟩, List.mem_of_getElem? (i := 123) (by decide +kernel), List.mem_of_getElem? (i := 240) (by decide +kernel), List.mem_of_getElem? (i := 241) (by decide +kernel)⟩
theorem lw_p2 : lw_okq (⟨"LineLives$Tree", "put", "(II)V"⟩, 6) := ⟨⟨by decide +kernel, by decide +kernel⟩, List.mem_of_getElem? (i := 123) (by decide +kernel), List.mem_of_getElem? (i := 251) (by decide +kernel), List.mem_of_getElem? (i := 252) (by decide +kernel)⟩
theorem lw_p3 : lw_okq (⟨"LineLives$Reigns", "renew", "()V"⟩, 3) := ⟨⟨by decide +kernel, by decide +kernel⟩, List.mem_of_getElem? (i := 148) (by decide +kernel), List.mem_of_getElem? (i := 268) (by decide +kernel), List.mem_of_getElem? (i := 269) (by decide +kernel)⟩
theorem lw_p4 : lw_okq (⟨"LineLives$Reigns", "note", "(I)V"⟩, 3) := ⟨⟨by decide +kernel, by decide +kernel⟩, List.mem_of_getElem? (i := 148) (by decide +kernel), List.mem_of_getElem? (i := 278) (by decide +kernel), List.mem_of_getElem? (i := 279) (by decide +kernel)⟩
theorem lw_p5 : lw_okq (⟨"java/lang/Throwable", "fillInStackTrace", "(I)Ljava/lang/Throwable;"⟩, 6) := ⟨⟨by decide +kernel, by decide +kernel⟩, List.mem_of_getElem? (i := 332) (by decide +kernel), List.mem_of_getElem? (i := 330) (by decide +kernel), List.mem_of_getElem? (i := 331) (by decide +kernel)⟩
theorem lw_p6 : lw_okq (⟨"LineLives", "changeStretch", "(IIIII)I"⟩, 6) := ⟨⟨by decide +kernel, by decide +kernel⟩, List.mem_of_getElem? (i := 19) (by decide +kernel), List.mem_of_getElem? (i := 565) (by decide +kernel), List.mem_of_getElem? (i := 566) (by decide +kernel)⟩
def lw_privs_1 : List (MethodName × Nat) := [(⟨"LineLives$Present", "renew", "()V"⟩, 5), (⟨"LineLives$Tree", "renew", "()V"⟩, 6), (⟨"LineLives$Tree", "put", "(II)V"⟩, 6), (⟨"LineLives$Reigns", "renew", "()V"⟩, 3), (⟨"LineLives$Reigns", "note", "(I)V"⟩, 3), (⟨"java/lang/Throwable", "fillInStackTrace", "(I)Ljava/lang/Throwable;"⟩, 6), (⟨"LineLives", "changeStretch", "(IIIII)I"⟩, 6)]
theorem lw_r1 : ∀ q ∈ lw_privs_1, lw_okq q := List.forall_mem_cons.mpr ⟨lw_p0, List.forall_mem_cons.mpr ⟨lw_p1, List.forall_mem_cons.mpr ⟨lw_p2, List.forall_mem_cons.mpr ⟨lw_p3, List.forall_mem_cons.mpr ⟨lw_p4, List.forall_mem_cons.mpr ⟨lw_p5, List.forall_mem_cons.mpr ⟨lw_p6, fun _ h => absurd h List.not_mem_nil⟩⟩⟩⟩⟩⟩⟩
def lw_privs : List (MethodName × Nat) := lw_privs_1
def lw_tbl : List Cond := k2_sels lw_privs ++ tables_1
theorem lw_privs_ok : ∀ q ∈ lw_privs, lw_okq q := lw_r1
/-- the streams that the claim lets the run draw from -/
abbrev lw_cs : List Choice := [Jvm.Choice.named "NaN.bits"]
theorem lw_bits : nanBits ∈ lw_cs := by first | decide | exact List.mem_cons_self | simp [lw_cs, nanBits]
/-! ===== BEGIN words of one list among another's, by their places ===== -/
theorem goodIn_r {big : List Cond} (ws : List Cond) (ps : List Nat) (hp : ws = ps.filterMap (fun i => big[i]?)) (h : ws.all goodWord = true) : GoodIn big ws := by
  intro w hw
  have h1 := List.all_eq_true.mp h w hw
  rw [hp] at hw
  obtain ⟨i, -, hi⟩ := List.mem_filterMap.mp hw
  have hm : w ∈ big := by first | exact List.mem_of_getElem? hi | exact List.getElem?_mem hi
  exact ⟨hm, good_of_word h1⟩
theorem goodIn_app {big a b : List Cond} (ha : GoodIn big a) (hb : GoodIn big b) : GoodIn big (a ++ b) := fun w h => (List.mem_append.mp h).elim (ha w) (hb w)
theorem goodIn_ca {big a b : List Cond} {c : Cond} (ha : GoodIn big (c :: a)) (hb : GoodIn big b) : GoodIn big (c :: (a ++ b)) := fun w h => (List.mem_cons.mp h).elim (fun e => ha w (List.mem_cons.mpr (Or.inl e))) (fun h => (List.mem_append.mp h).elim (fun h => ha w (List.mem_cons.mpr (Or.inr h))) (hb w))
theorem goodIn_sub {big ws : List Cond} (hm : ∀ w ∈ ws, w ∈ big) (h : ws.all goodWord = true) : GoodIn big ws := fun w hw => ⟨hm w hw, good_of_word (List.all_eq_true.mp h w hw)⟩
/-! ===== END ===== -/

/-! ===== BEGIN exceptions that leave a method, and their catching by the caller (launches without stack traces) ===== -/
section VXA
/-! The laws vx_back, vx_callV, vx_callS, vx_callSW, vx_throw0, vx_throwS follow proofs of the library, with one case more: JvmDerived/Free/Laws.lean (Back.of_free), Shelf42/LK1.lean (callV, callS), Shelf/KitTraced.lean (throwNew0V, throwNewS). -/
/-- where a method has thrown q: the class by its name, the cell, what was written, the world -/
def vx_T (XC : String → State → State → Prop) (st : State) (q : Addr) (t : State) (mc ms : Nat) (free : Addr → Prop) : Prop :=
  ∃ (E : String) (ce : Cell) (L : List Loc), XC E st t ∧ t.heap[q]? = some ce ∧ ce.vm = .none ∧ st.vm.findClass E = some ce.cls ∧ st.WarmedH t.vm ∧ st.sameButNew ({ t with vm := st.vm } : State) L mc ms ∧ ∀ z ∈ L, free z.base
def vx_Q (Qc : Array Value → State → Outcome → State → Prop) (XC : String → State → State → Prop) (mc ms : Nat) (free : Addr → Prop) : Array Value → State → Outcome → State → Prop := fun a st o t =>
  (Qc a st o t ∧ ∃ L, FrameEnd st o t L mc ms ∧ ∀ q ∈ L, free q.base) ∨ ∃ q, o = .threw q ∧ vx_T XC st q t mc ms free
/-- a callee that returns or throws -/
def vx_Met (l : Launch) (y : MethodName) (ws : List Cond) (rm : Room) (Pc : Array Value → State → Prop) (Qc : Array Value → State → Outcome → State → Prop) (XC : String → State → State → Prop) (mc ms : Nat) (free : Addr → Prop) : Prop :=
  MetFree l y (headSpec ws rm) Pc (fun _ _ _ _ _ => True) (vx_Q Qc XC mc ms free)
def vx_Post (XC : String → State → State → Prop) (mc ms : Nat) (free : Addr → Prop) : Pt → Array Value → Addr → Pt → Prop := fun A a q B =>
  ∃ (g : JFrame) (mk : MethodId) (t : State) (L : List Loc) (E : String) (ce : Cell), B.U.heap = t.heap ∧ B.U.vm = t.vm ∧ XC E (A.U.calling g mk a) t ∧ t.heap[q]? = some ce ∧ ce.vm = .none ∧ A.U.vm.findClass E = some ce.cls ∧ B.locs = A.locs ++ L ∧ (∀ z ∈ L, free z.base) ∧ B.cells = A.cells + mc ∧ B.slots = A.slots + ms
def vx_Back (l : Launch) (R : Room) (p : Program) (e : Env) (below : List Frame) (s : State) (sargs : Array Value) (y : MethodName) (len W9 : Nat)
    (Pre : Pt → Array Value → Prop) (Post : Pt → Array Value → Option Value → Pt → Prop) (PostX : Pt → Array Value → Addr → Pt → Prop) : Prop :=
  ∀ (m : MethodId) (meth : Method) (c : Code) (A : Pt) (g : JFrame) (ig : Instr) (mk : MethodId) (a : Array Value),
    Stand p l e R s m sargs below meth c A.U A.locs A.cells A.slots → g.method = m → g.locals.size = c.maxLocals → decode c.code g.pc = .ok (ig, len) →
    2 * g.monitorRoom + (g.stack.map fun v => v.category).sum ≤ W9 → A.U.methodNamed? y = some mk → Pre A a →
    (∃ (v : Option Value) (B : Pt), Stand p l e R s m sargs below meth c B.U B.locs B.cells B.slots ∧ Post A a v B ∧
      Steps p.tables e below (doInvoke e (A.U.setTop g) [] mk a).1 (B.U.setTop { g with pc := g.pc + len, stack := v.toList ++ g.stack })) ∨
    (∃ (q : Addr) (B : Pt), Stand p l e R s m sargs below meth c B.U B.locs B.cells B.slots ∧ PostX A a q B ∧
      Steps p.tables e below (doInvoke e (A.U.setTop g) [] mk a).1 ((B.U.setTop g).pushFrame (.throwing q)))
section Payer
variable {l : Launch} {R : Room} {p : Program} {e : Env} {below : List Frame} {s : State} {sargs : Array Value} {y : MethodName} {len W9 : Nat}
theorem vx_back {ws : List Cond} {rm : Room} {Pc : Array Value → State → Prop} {Qc : Array Value → State → Outcome → State → Prop} {XC : String → State → State → Prop} {mc ms : Nat} {free : Addr → Prop} {bytes : ByteArray} {maxL : Nat} {ret : Option FieldType}
    (hM : vx_Met l y ws rm Pc Qc XC mc ms free) (hblind : FrameBlind Pc) (hrc : rm.cells = mc) (hrs : rm.slots = ms)
    (hframes : rm.frames + 1 ≤ R.frames) (hlocals : W9 + (maxL + 11) + rm.locals ≤ R.locals)
    (hws : ∀ w ∈ ws, ∀ a' U, s.WarmedH U.vm → w.before a' U = true) (hcode : Cond.code y bytes maxL ret ∈ ws) (hinit : ∀ a' U, s.WarmedH U.vm → (Cond.initialized y.cls).before a' U = true) :
    vx_Back l R p e below s sargs y len W9 (PreOf R mc ms Pc) (PostOf Qc mc ms free) (vx_Post XC mc ms free) := by
  intro m meth c A g ig mk a X hg hsize hdg hW hn hp
  have h1 : (headSpec ws rm).pre.before a A.U = true := atoms_intro fun w hw => hws w hw _ _ X.warmed
  have h2 : (Cond.code y bytes maxL ret).before a A.U = true := hws _ hcode _ _ X.warmed
  have h3 : (Cond.initialized y.cls).before a A.U = true := hinit _ _ X.warmed
  have h4 : A.cells + (headSpec ws rm).room.cells ≤ R.cells := by rw [show (headSpec ws rm).room.cells = mc from hrc]; exact hp.1
  have h5 : A.slots + (headSpec ws rm).room.slots ≤ R.slots := by rw [show (headSpec ws rm).room.slots = ms from hrs]; exact hp.2.1
  have hPc : Pc a (A.U.calling g mk a) := hblind _ _ _ _ hp.2.2
  obtain ⟨U, Ls, c0, s0⟩ := A
  dsimp only [Pt.U, Pt.locs, Pt.cells, Pt.slots] at h1 h2 h3 h4 h5 X hn hPc ⊢
  obtain ⟨methY, cY, hmY, hcY, -, hlY, -, -, -, -⟩ := Cond.code_spec hn h2
  obtain ⟨kY, hkY, -⟩ := className_of_methodNamed hn
  have hinitY : kY.init = .initialized := Cond.initialized_spec (findClass_of_methodNamed hn) hkY h3
  have h : At U g.method c below := by rw [hg]; exact X.here
  have hlocals9 : W9 + (maxL + 11) + (headSpec ws rm).room.locals ≤ R.locals := hlocals
  have happ : (headSpec ws rm).appliesLoose y e.platform (U.calling g mk a) = true :=
    Spec.appliesLoose_calling (g := g) h hdg hn hkY hinitY
      (X.room_calling (g := g) (R' := (headSpec ws rm).room) hsize hmY hcY hframes (by rw [hlY]; omega) h4 h5) h1
  obtain ⟨mid, hmid⟩ := h.above
  have hfr : (U.setTop g).frames = (.java g :: mid) ++ below := by rw [State.frames_setTop' g h.top, hmid]; rfl
  obtain ⟨o, s₂, hsteps, -, hend, hq⟩ := Steps.callFree hM p X.admits X.cas X.clock (acts := []) hfr happ hPc trivial
  have hq' : vx_Q Qc XC mc ms free a (U.calling g mk a) o s₂ := hq
  rw [State.frames_setTop' g h.top] at hend
  obtain ⟨g₀, hg0⟩ := Option.isSome_iff_exists.mp h.top
  obtain ⟨r, hr⟩ := State.topJava?_eq_some.mp hg0
  have hr' : (({ U with heap := s₂.heap, slotsUsed := s₂.slotsUsed } : State).setVm s₂.vm).frames = .java g₀ :: r := hr
  rcases hq' with ⟨hqc, L, hfe, hL⟩ | ⟨q, rfl, E, ce, L, hx, hce, hcv, hcl, hW₂, hsm, hL⟩
  · obtain ⟨⟨v, rfl⟩, hW₂, e2, q2, q3, q4, q5, q6⟩ := id hfe
    have e3 : s₂ = ({ (U.calling g mk a).setFrames s₂.frames with heap := s₂.heap, slotsUsed := s₂.slotsUsed } : State).setVm s₂.vm := by
      have : s₂ = ({ s₂ with vm := (U.calling g mk a).vm } : State).setVm s₂.vm := rfl
      rw [e2] at this
      exact this
    obtain ⟨c₂, i₂, len₂, hc₂, hd₂, hf₂⟩ := hend
    have hW' : U.WarmedH s₂.vm := hW₂
    have hcc : c₂ = c := by
      have h1 : s₂.code? g.method = U.code? g.method := by
        rw [State.code?_eq, State.code?_eq, hW'.alike.method?]
      exact Option.some.inj (hc₂.symm.trans (h1.trans h.code))
    subst hcc
    have hlen : len₂ = len := by rw [hdg] at hd₂; cases hd₂; rfl
    subst hlen
    have hs₂ : s₂ = (({ U with heap := s₂.heap, slotsUsed := s₂.slotsUsed } : State).setVm s₂.vm).setTop { g with pc := g.pc + len₂, stack := v.toList ++ g.stack } := by
      refine e3.trans ?_
      rw [hf₂, State.calling_eq h.top, State.setFrames_setFrames, State.setTop_of_frames _ hr', hr]
      rfl
    have hsame : U.sameButNew ({ U with heap := s₂.heap, slotsUsed := s₂.slotsUsed } : State) L mc ms := by
      refine ⟨?_, q2, q3, q4, q5, q6⟩
      obtain ⟨t, ht, -⟩ := State.frames_cons hr
      show ({ U with heap := s₂.heap, slotsUsed := s₂.slotsUsed } : State) = { U.setFrames U.frames with heap := s₂.heap, slotsUsed := s₂.slotsUsed }
      rw [State.setFrames_self ht]
    subst hg
    refine Or.inl ⟨v, ⟨(({ U with heap := s₂.heap, slotsUsed := s₂.slotsUsed } : State).setVm s₂.vm), Ls ++ L, c0 + mc, s0 + ms⟩,
      ⟨X.admits, X.cas, X.clock, X.frames, X.room, X.hears, X.method, X.code, (X.here.setHeapUsed s₂.heap s₂.slotsUsed).setVm hW'.alike, X.tail, State.WarmedH.trans X.warmed hW', X.limits, X.bytes, X.same.trans (hsame.setVm s.vm)⟩,
      ⟨g, mk, s₂, L, rfl, rfl, hqc, rfl, hL, rfl, rfl⟩, ?_⟩
    show Steps p.tables e below _ ((({ U with heap := s₂.heap, slotsUsed := s₂.slotsUsed } : State).setVm s₂.vm).setTop { g with pc := g.pc + len₂, stack := v.toList ++ g.stack })
    rw [← hs₂]
    exact hsteps
  · obtain ⟨e2, q2, q3, q4, q5, q6⟩ := id hsm
    have e3 : s₂ = ({ (U.calling g mk a).setFrames s₂.frames with heap := s₂.heap, slotsUsed := s₂.slotsUsed } : State).setVm s₂.vm := by
      have : s₂ = ({ s₂ with vm := (U.calling g mk a).vm } : State).setVm s₂.vm := rfl
      rw [e2] at this
      exact this
    have hf₂ : s₂.frames = .throwing q :: .java g :: U.frames.tail := hend
    have hW' : U.WarmedH s₂.vm := hW₂
    have hs₂ : s₂ = ((({ U with heap := s₂.heap, slotsUsed := s₂.slotsUsed } : State).setVm s₂.vm).setTop g).pushFrame (.throwing q) := by
      refine e3.trans ?_
      rw [hf₂, State.calling_eq h.top, State.setFrames_setFrames, State.pushFrame, State.frames_setTop _ hr', State.setTop_of_frames _ hr', State.setFrames_setFrames, hr]
      rfl
    have hsame : U.sameButNew ({ U with heap := s₂.heap, slotsUsed := s₂.slotsUsed } : State) L mc ms := by
      refine ⟨?_, q2, q3, q4, q5, q6⟩
      obtain ⟨t, ht, -⟩ := State.frames_cons hr
      show ({ U with heap := s₂.heap, slotsUsed := s₂.slotsUsed } : State) = { U.setFrames U.frames with heap := s₂.heap, slotsUsed := s₂.slotsUsed }
      rw [State.setFrames_self ht]
    subst hg
    refine Or.inr ⟨q, ⟨(({ U with heap := s₂.heap, slotsUsed := s₂.slotsUsed } : State).setVm s₂.vm), Ls ++ L, c0 + mc, s0 + ms⟩,
      ⟨X.admits, X.cas, X.clock, X.frames, X.room, X.hears, X.method, X.code, (X.here.setHeapUsed s₂.heap s₂.slotsUsed).setVm hW'.alike, X.tail, State.WarmedH.trans X.warmed hW', X.limits, X.bytes, X.same.trans (hsame.setVm s.vm)⟩,
      ⟨g, mk, s₂, L, E, ce, rfl, rfl, hx, hce, hcv, hcl, rfl, hL, rfl, rfl⟩, ?_⟩
    show Steps p.tables e below _ (((({ U with heap := s₂.heap, slotsUsed := s₂.slotsUsed } : State).setVm s₂.vm).setTop g).pushFrame (.throwing q))
    rw [← hs₂]
    exact hsteps
end Payer
section Calls
variable {p : Program} {l : Launch} {e : Env} {R : Room} {s : State} {m : MethodId} {args : Array Value} {below : List Frame} {meth : Method} {c : Code} {T : State} {locs : List Loc} {cells slots : Nat}
theorem vx_callV (X : Stand p l e R s m args below meth c T locs cells slots) (hexec : p.tables.exec = Jvm.exec) {own C : String} {index : Nat} {y : MethodName} {bytes : ByteArray} {maxL : Nat} {ret : Option FieldType}
    (hown : s.vm.findClass own = some m.cls) (hlink : (Cond.methodLink own index y).before args s = true) (hinst : (Cond.instanceMethod y).before args s = true) (hsel : (Cond.selects C y y).before args s = true)
    (hcode : (Cond.code y bytes maxL ret).before args s = true) (hy : y.cls ≠ "java/lang/invoke/MethodHandle" ∧ y.cls ≠ "java/lang/invoke/VarHandle")
    {W9 : Nat} {Pre : Pt → Array Value → Prop} {Post : Pt → Array Value → Option Value → Pt → Prop} {PostX : Pt → Array Value → Addr → Pt → Prop} (hK : vx_Back l R p e below s args y 3 W9 Pre Post PostX)
    {b : Addr} {cellB : Cell} (hcell : T.heap[b]? = some cellB) (hobj : cellB.vm.isStatics = false) (hcls : s.vm.findClass C = some cellB.cls)
    {g : JFrame} (hg : g.method = m) (hsize : g.locals.size = c.maxLocals) {argsL rest : List Value} (hlen : ∀ sig, parseMethodDescriptor y.desc = some sig → argsL.length = sig.parameters.length)
    (hstack : g.stack = argsL.reverse ++ .ref b :: rest) (hW : 2 * g.monitorRoom + (rest.map fun v => v.category).sum ≤ W9) (hdg : decode c.code g.pc = .ok (.invokevirtual index, 3))
    (hpre : ∀ vm₁, s.WarmedH vm₁ → Pre ⟨T.setVm vm₁, locs, cells, slots⟩ (Value.ref b :: argsL).toArray) :
    (∃ (v : Option Value) (vm₁ : Vm) (B : Pt), s.WarmedH vm₁ ∧ Stand p l e R s m args below meth c B.U B.locs B.cells B.slots ∧ Post ⟨T.setVm vm₁, locs, cells, slots⟩ (Value.ref b :: argsL).toArray v B ∧
      ∀ target, Steps p.tables e below (B.U.setTop { g with pc := g.pc + 3, stack := v.toList ++ rest }) target → Steps p.tables e below (T.setTop g) target) ∨
    (∃ (q : Addr) (vm₁ : Vm) (B : Pt), s.WarmedH vm₁ ∧ Stand p l e R s m args below meth c B.U B.locs B.cells B.slots ∧ PostX ⟨T.setVm vm₁, locs, cells, slots⟩ (Value.ref b :: argsL).toArray q B ∧
      Steps p.tables e below (T.setTop g) ((B.U.setTop { g with stack := rest }).pushFrame (.throwing q))) := by
  obtain ⟨mk, methM, hnamed, hmethM, hstM, habM⟩ := Cond.instanceMethod_spec hinst
  obtain ⟨methM', cM, hmethM', -, -, -, -, -, -, hsigM⟩ := Cond.code_spec hnamed hcode
  cases hmethM.symm.trans hmethM'
  obtain ⟨c2, r2, m2, q1, q2, q3, q4, kP, hkP, hkPi⟩ := Cond.selects_spec hsel
  cases hcls.symm.trans q1
  cases (State.methodFound?_of_named hnamed hy).symm.trans q2
  cases hnamed.symm.trans q3
  have hselP : selectMethod e.platform s.vm cellB.cls mk = .method mk := by rw [Launch.admits_selectMethod X.admits]; exact q4
  obtain ⟨vm₁, X₁, hstep₁⟩ := X.invokevirtual hexec hown hlink hnamed hmethM hstM hkP hkPi hy (a := b) (cell := cellB) hcell
    (fun z h => by rw [h] at hobj; cases hobj) hselP hmethM habM hkP hkPi (g := g) hg (argsL := argsL) (rest := rest) (hlen _ hsigM) hstack hdg
  rcases hK m meth c ⟨T.setVm vm₁, locs, cells, slots⟩ { g with stack := rest } (.invokevirtual index) mk (Value.ref b :: argsL).toArray X₁ hg hsize hdg hW (X₁.named hnamed) (hpre vm₁ X₁.warmed) with ⟨v, B, X', hpost, hsteps⟩ | ⟨q, B, X', hpost, hsteps⟩
  · exact Or.inl ⟨v, vm₁, B, X₁.warmed, X', hpost, fun target h => hstep₁ _ fun acts => by rw [doInvoke_state]; exact hsteps.trans h⟩
  · exact Or.inr ⟨q, vm₁, B, X₁.warmed, X', hpost, hstep₁ _ fun acts => by rw [doInvoke_state]; exact hsteps⟩
theorem vx_callS (X : Stand p l e R s m args below meth c T locs cells slots) (hexec : p.tables.exec = Jvm.exec) {own : String} {index : Nat} {y : MethodName} {bytes : ByteArray} {maxL : Nat} {ret : Option FieldType}
    (hown : s.vm.findClass own = some m.cls) (hlink : (Cond.methodLink own index y).before args s = true) (hstat : (Cond.static y).before args s = true) (hinit : (Cond.initialized y.cls).before args s = true)
    (hcode : (Cond.code y bytes maxL ret).before args s = true) (hy : y.cls ≠ "java/lang/invoke/MethodHandle" ∧ y.cls ≠ "java/lang/invoke/VarHandle")
    {W9 : Nat} {Pre : Pt → Array Value → Prop} {Post : Pt → Array Value → Option Value → Pt → Prop} {PostX : Pt → Array Value → Addr → Pt → Prop} (hK : vx_Back l R p e below s args y 3 W9 Pre Post PostX)
    {g : JFrame} (hg : g.method = m) (hsize : g.locals.size = c.maxLocals) {argsL rest : List Value} (hlen : ∀ sig, parseMethodDescriptor y.desc = some sig → argsL.length = sig.parameters.length)
    (hstack : g.stack = argsL.reverse ++ rest) (hW : 2 * g.monitorRoom + (rest.map fun v => v.category).sum ≤ W9) (hdg : decode c.code g.pc = .ok (.invokestatic index, 3))
    (hpre : ∀ vm₁, s.WarmedH vm₁ → Pre ⟨T.setVm vm₁, locs, cells, slots⟩ argsL.toArray) :
    (∃ (v : Option Value) (vm₁ : Vm) (B : Pt), s.WarmedH vm₁ ∧ Stand p l e R s m args below meth c B.U B.locs B.cells B.slots ∧ Post ⟨T.setVm vm₁, locs, cells, slots⟩ argsL.toArray v B ∧
      ∀ target, Steps p.tables e below (B.U.setTop { g with pc := g.pc + 3, stack := v.toList ++ rest }) target → Steps p.tables e below (T.setTop g) target) ∨
    (∃ (q : Addr) (vm₁ : Vm) (B : Pt), s.WarmedH vm₁ ∧ Stand p l e R s m args below meth c B.U B.locs B.cells B.slots ∧ PostX ⟨T.setVm vm₁, locs, cells, slots⟩ argsL.toArray q B ∧
      Steps p.tables e below (T.setTop g) ((B.U.setTop { g with stack := rest }).pushFrame (.throwing q))) := by
  obtain ⟨mk, hnamed⟩ := Cond.code_named hcode
  obtain ⟨methM, cM, hmethM, -, -, -, -, -, -, hsigM⟩ := Cond.code_spec hnamed hcode
  have hstatic : methM.isStatic = true := Cond.static_spec hnamed hmethM hstat
  obtain ⟨kP, hkP, -⟩ := className_of_methodNamed hnamed
  have hinitP : kP.init = .initialized := Cond.initialized_spec (findClass_of_methodNamed hnamed) hkP hinit
  obtain ⟨vm₁, X₁, hstep₁⟩ := X.invokestatic hexec hown hlink hnamed hmethM hstatic hkP hinitP hy (g := g) hg (argsL := argsL) (rest := rest) (hlen _ hsigM) hstack hdg
  rcases hK m meth c ⟨T.setVm vm₁, locs, cells, slots⟩ { g with stack := rest } (.invokestatic index) mk argsL.toArray X₁ hg hsize hdg hW (X₁.named hnamed) (hpre vm₁ X₁.warmed) with ⟨v, B, X', hpost, hsteps⟩ | ⟨q, B, X', hpost, hsteps⟩
  · exact Or.inl ⟨v, vm₁, B, X₁.warmed, X', hpost, fun target h => hstep₁ _ fun acts => by rw [doInvoke_state]; exact hsteps.trans h⟩
  · exact Or.inr ⟨q, vm₁, B, X₁.warmed, X', hpost, hstep₁ _ fun acts => by rw [doInvoke_state]; exact hsteps⟩
end Calls
theorem vx_cls {s : State} {T : State} {vm₁ : Vm} {E : String} {k : ClassId} (hW : s.WarmedH vm₁) (h : (T.setVm vm₁).vm.findClass E = some k) : s.vm.findClass E = some k := by
  have h1 : vm₁.findClass E = some k := h
  rw [hW.alike.findClass] at h1
  exact h1
/-- the method's frame g, with q thrown over it -/
def vx_W (p : Program) (l : Launch) (e : Env) (R : Room) (s : State) (m : MethodId) (args : Array Value) (below : List Frame) (meth : Method) (c : Code) (H : Heap) (locs : List Loc) (cells slots : Nat) (Q : State → Prop) (g : JFrame) (q : Addr) : Prop :=
  ∀ T : State, T.heap = H → Stand p l e R s m args below meth c T locs cells slots → ∃ t, Steps p.tables e below ((T.setTop g).pushFrame (.throwing q)) t ∧ Q t
def vx_Run (p : Program) (l : Launch) (e : Env) (R : Room) (s : State) (m : MethodId) (args : Array Value) (below : List Frame) (meth : Method) (c : Code) (H : Heap) (locs : List Loc) (cells slots mc ms : Nat) (g : JFrame) (rest : List Value) (Qa : State → Outcome → State → Prop) (XC : String → State → State → Prop) (free : Addr → Prop) : Prop :=
  ∀ T : State, T.heap = H → Stand p l e R s m args below meth c T locs cells slots →
    (∃ (v : Option Value) (st₀ t T' : State) (L : List Loc), st₀.heap = H ∧ Stand p l e R s m args below meth c T' (locs ++ L) (cells + mc) (slots + ms) ∧ (∀ q ∈ L, free q.base) ∧ T'.heap = t.heap ∧ T'.vm = t.vm ∧ Qa st₀ (.returned v) t ∧
      Goes p e below T g T' { g with pc := g.pc + 3, stack := v.toList ++ rest }) ∨
    (∃ (q : Addr) (st₀ t T' : State) (L : List Loc) (E : String) (ce : Cell), st₀.heap = H ∧ Stand p l e R s m args below meth c T' (locs ++ L) (cells + mc) (slots + ms) ∧ (∀ z ∈ L, free z.base) ∧ T'.heap = t.heap ∧ T'.vm = t.vm ∧ XC E st₀ t ∧ t.heap[q]? = some ce ∧ ce.vm = .none ∧ s.vm.findClass E = some ce.cls ∧
      Steps p.tables e below (T.setTop g) ((T'.setTop { g with stack := rest }).pushFrame (.throwing q)))
def vx_X {S : Type} (px : S → Prop) (B : String → S → State → Prop) (A : Nat → Prop) : String → State → State → Prop := fun E st t => ∃ u : S, px u ∧ B E u t ∧ va_F A st t
section Runs
variable {p : Program} {l : Launch} {e : Env} {R : Room} {s : State} {m : MethodId} {args : Array Value} {below : List Frame} {meth : Method} {c : Code} {H : Heap} {locs : List Loc} {cells slots : Nat}
variable {y : MethodName} {bytes cc : ByteArray} {maxL nL mc ms n index : Nat} {ret : Option FieldType} {ws : List Cond} {rm : Room} {Pc : Array Value → State → Prop} {Qc : Array Value → State → Outcome → State → Prop} {XC : String → State → State → Prop} {free : Addr → Prop} {Ts : List Cond} {own C : String} {b : Addr} {As rest : List Value} {g : JFrame}
theorem vx_callBack (cb : CallB R s args own index y bytes maxL ret ws rm mc ms n) (hM : vx_Met l y ws rm Pc Qc XC mc ms free) (hbl : FrameBlind Pc) : vx_Back l R p e below s args y 3 8 (PreOf R mc ms Pc) (PostOf Qc mc ms free) (vx_Post XC mc ms free) := by
  obtain ⟨hrc, hrs, hfr, hlo, hws, hcw, -, hini, -⟩ := cb
  exact vx_back (bytes := bytes) (maxL := maxL) (ret := ret) hM hbl hrc hrs hfr hlo hws hcw (fun a' U hW => word_at hW (Or.inl (by first | rfl | simp [Cond.onTables, Cond.keeps, Cond.steady])) hini)
theorem vx_runV (S : CallFix p m c cc nL s args Ts own) (hM : vx_Met l y ws rm Pc Qc XC mc ms free) (cw : CallW R s args own C index y bytes maxL ret ws rm mc ms n) (hp : PreV s H C b Pc As)
    (hg : g.method = m) (hn : As.length = n) (hsize : g.locals.size = nL) (hstack : g.stack = As.reverse ++ .ref b :: rest) (hW : 2 * g.monitorRoom + (rest.map fun v => v.category).sum ≤ 8) (hdg : decode cc g.pc = .ok (.invokevirtual index, 3)) (hf : cells + mc ≤ R.cells ∧ slots + ms ≤ R.slots) :
    vx_Run p l e R s m args below meth c H locs cells slots mc ms g rest (Qc (Value.ref b :: As).toArray) XC free := by
  have hK : vx_Back l R p e below s args y 3 8 (PreOf R mc ms Pc) (PostOf Qc mc ms free) (vx_Post XC mc ms free) := vx_callBack cw.1 hM hp.1
  obtain ⟨⟨-, -, -, -, -, -, hcode, -, hy, hlen, hl⟩, hin, hse⟩ := cw
  obtain ⟨hx, hb, hml, ho, -⟩ := S
  obtain ⟨-, ⟨cellB, hcB, hoB, hclB⟩, hPc⟩ := hp
  intro T hT X
  rcases vx_callV X hx (C := C) (bytes := bytes) (maxL := maxL) (ret := ret) ho hl hin hse hcode hy hK (by rw [hT]; exact hcB) hoB hclB hg (hsize.trans hml.symm) (argsL := As) (rest := rest) (fun sig h => hn.trans (hlen sig h)) hstack hW (by rw [hb]; exact hdg)
    (fun vm₁ hW₁ => ⟨hf.1, hf.2, hPc (T.setVm vm₁) hT hW₁⟩) with ⟨v, vm₁, ⟨U', l2, c2, s2⟩, hW₁, X', ⟨g', mk, t, L, e1, e2, hq, h1, hL, h2, h3⟩, st⟩ | ⟨q, vm₁, ⟨U', l2, c2, s2⟩, hW₁, X', ⟨g', mk, t, L, E, ce, e1, e2, hq, hce, hcv, hcl, h1, hL, h2, h3⟩, st⟩
  · dsimp only [Pt.U, Pt.locs, Pt.cells, Pt.slots] at X' e1 e2 h1 h2 h3 st
    subst h1; subst h2; subst h3
    exact Or.inl ⟨v, (T.setVm vm₁).calling g' mk (Value.ref b :: As).toArray, t, U', L, hT, X', hL, e1, e2, hq, st⟩
  · dsimp only [Pt.U, Pt.locs, Pt.cells, Pt.slots] at X' e1 e2 h1 h2 h3 st hcl
    subst h1; subst h2; subst h3
    exact Or.inr ⟨q, (T.setVm vm₁).calling g' mk (Value.ref b :: As).toArray, t, U', L, E, ce, hT, X', hL, e1, e2, hq, hce, hcv, vx_cls hW₁ hcl, st⟩
theorem vx_runS (S : CallFix p m c cc nL s args Ts own) (hM : vx_Met l y ws rm Pc Qc XC mc ms free) (cw : CallB R s args own index y bytes maxL ret ws rm mc ms n ∧ (Cond.static y).before args s = true) (hp : PreS s H Pc As)
    (hg : g.method = m) (hn : As.length = n) (hsize : g.locals.size = nL) (hstack : g.stack = As.reverse ++ rest) (hW : 2 * g.monitorRoom + (rest.map fun v => v.category).sum ≤ 8) (hdg : decode cc g.pc = .ok (.invokestatic index, 3)) (hf : cells + mc ≤ R.cells ∧ slots + ms ≤ R.slots) :
    vx_Run p l e R s m args below meth c H locs cells slots mc ms g rest (Qc As.toArray) XC free := by
  have hK : vx_Back l R p e below s args y 3 8 (PreOf R mc ms Pc) (PostOf Qc mc ms free) (vx_Post XC mc ms free) := vx_callBack cw.1 hM hp.1
  obtain ⟨⟨-, -, -, -, -, -, hcode, hini, hy, hlen, hl⟩, hstt⟩ := cw
  obtain ⟨hx, hb, hml, ho, -⟩ := S
  intro T hT X
  rcases vx_callS X hx (bytes := bytes) (maxL := maxL) (ret := ret) ho hl hstt hini hcode hy hK hg (hsize.trans hml.symm) (argsL := As) (rest := rest) (fun sig h => hn.trans (hlen sig h)) hstack hW (by rw [hb]; exact hdg)
    (fun vm₁ hW₁ => ⟨hf.1, hf.2, hp.2 (T.setVm vm₁) hT hW₁⟩) with ⟨v, vm₁, ⟨U', l2, c2, s2⟩, hW₁, X', ⟨g', mk, t, L, e1, e2, hq, h1, hL, h2, h3⟩, st⟩ | ⟨q, vm₁, ⟨U', l2, c2, s2⟩, hW₁, X', ⟨g', mk, t, L, E, ce, e1, e2, hq, hce, hcv, hcl, h1, hL, h2, h3⟩, st⟩
  · dsimp only [Pt.U, Pt.locs, Pt.cells, Pt.slots] at X' e1 e2 h1 h2 h3 st
    subst h1; subst h2; subst h3
    exact Or.inl ⟨v, (T.setVm vm₁).calling g' mk As.toArray, t, U', L, hT, X', hL, e1, e2, hq, st⟩
  · dsimp only [Pt.U, Pt.locs, Pt.cells, Pt.slots] at X' e1 e2 h1 h2 h3 st hcl
    subst h1; subst h2; subst h3
    exact Or.inr ⟨q, (T.setVm vm₁).calling g' mk As.toArray, t, U', L, E, ce, hT, X', hL, e1, e2, hq, hce, hcv, vx_cls hW₁ hcl, st⟩
end Runs
section Rows
variable {p : Program} {l : Launch} {e : Env} {R : Room} {s : State} {m : MethodId} {args : Array Value} {below : List Frame} {meth : Method} {c : Code} {H : Heap} {locs : List Loc} {cells slots : Nat} {Q : State → Prop}
variable {mc ms : Nat} {free : Addr → Prop} {A0 A1 : Nat → Prop} {H0 : Heap} {a : Array Value} {pc : Nat} {ls : Array Slot} {st0 rest : List Value}
theorem vx_keep {st₀ t T' : State} {L : List Loc} (h0 : st₀.heap = H) (e1 : T'.heap = t.heap) (hS : va_S A0 H0 H locs) (hA : ∀ q, q < H.size → A1 q → A0 q) (hf : ∀ q, free q → A0 q) (hL : ∀ q ∈ L, free q.base) (hF : va_F A1 st₀ t) :
    H.size ≤ T'.heap.size ∧ (∀ q : Nat, q < H.size → ¬ A1 q → T'.heap[q]? = H[q]?) ∧ va_S A0 H0 T'.heap (locs ++ L) := by
  obtain ⟨hz, hk⟩ := hF
  rw [h0] at hz hk
  exact ⟨by rw [e1]; exact hz, fun q h1 h2 => by rw [e1]; exact hk q h1 h2,
    ⟨Nat.le_trans hS.1 (by rw [e1]; exact hz), fun q h1 h2 => by rw [e1, hk q (Nat.lt_of_lt_of_le h1 hS.1) (fun z => h2 (hA q (Nat.lt_of_lt_of_le h1 hS.1) z))]; exact hS.2.1 q h1 h2, fun q hq => by
      rcases List.mem_append.mp hq with h | h
      · exact hS.2.2 q h
      · exact hf _ (hL q h)⟩⟩
theorem vx_calli {S SX : Type} {post : Int32 → S → Prop} {px : SX → Prop} {B : S → State → Prop} {BX : String → SX → State → Prop} {AX : Nat → Prop} (hr : vx_Run p l e R s m args below meth c H locs cells slots mc ms (F0 m pc ls st0) rest (va_Qi post B A1 a) (vx_X px BX AX) free) (hS : va_S A0 H0 H locs) (hA : ∀ q, q < H.size → A1 q → A0 q) (hf : ∀ q, free q → A0 q) (hAX : ∀ q, q < H.size → AX q → A0 q)
    (kx : ∀ (E : String) (ce : Cell) (q9 : Addr) (u : SX) (t : State) (H1 : Heap) (locs1 : List Loc), t.heap = H1 → s.vm.Alike t.vm → px u → BX E u t → H.size ≤ H1.size → (∀ q : Nat, q < H.size → ¬ AX q → H1[q]? = H[q]?) → va_S A0 H0 H1 locs1 → H1[q9]? = some ce → ce.vm = .none → s.vm.findClass E = some ce.cls → vx_W p l e R s m args below meth c H1 locs1 (cells + mc) (slots + ms) Q (F0 m pc ls rest) q9)
    (kk : ∀ (r : Int32) (u : S) (t : State) (H1 : Heap) (locs1 : List Loc), t.heap = H1 → s.vm.Alike t.vm → post r u → B u t → H.size ≤ H1.size → (∀ q : Nat, q < H.size → ¬ A1 q → H1[q]? = H[q]?) → va_S A0 H0 H1 locs1 → W p l e R s m args below meth c H1 locs1 (cells + mc) (slots + ms) Q (F0 m (pc + 3) ls (.int r :: rest))) : W p l e R s m args below meth c H locs cells slots Q (F0 m pc ls st0) := by
  intro T hT X
  rcases hr T hT X with ⟨v, st₀, t, T', L, h0, X', hL, e1, e2, ⟨⟨r, u, hv, hp, hb⟩, hF⟩, st⟩ | ⟨q, st₀, t, T', L, E, ce, h0, X', hL, e1, e2, ⟨u, hp, hb, hF⟩, hce, hcv, hcl, st⟩
  · cases hv
    obtain ⟨k1, k2, k3⟩ := vx_keep h0 e1 hS hA hf hL hF
    obtain ⟨t2, a1, b1⟩ := kk r u t T'.heap (locs ++ L) e1.symm (by rw [← e2]; exact X'.warmed.alike) hp hb k1 k2 k3 T' rfl X'
    exact ⟨t2, st t2 a1, b1⟩
  · obtain ⟨k1, k2, k3⟩ := vx_keep h0 e1 hS hAX hf hL hF
    obtain ⟨t2, a1, b1⟩ := kx E ce q u t T'.heap (locs ++ L) e1.symm (by rw [← e2]; exact X'.warmed.alike) hp hb k1 k2 k3 (by rw [e1]; exact hce) hcv hcl T' rfl X'
    exact ⟨t2, st.trans a1, b1⟩
theorem vx_calll {S SX : Type} {post : Int64 → S → Prop} {px : SX → Prop} {B : S → State → Prop} {BX : String → SX → State → Prop} {AX : Nat → Prop} (hr : vx_Run p l e R s m args below meth c H locs cells slots mc ms (F0 m pc ls st0) rest (va_Ql post B A1 a) (vx_X px BX AX) free) (hS : va_S A0 H0 H locs) (hA : ∀ q, q < H.size → A1 q → A0 q) (hf : ∀ q, free q → A0 q) (hAX : ∀ q, q < H.size → AX q → A0 q)
    (kx : ∀ (E : String) (ce : Cell) (q9 : Addr) (u : SX) (t : State) (H1 : Heap) (locs1 : List Loc), t.heap = H1 → s.vm.Alike t.vm → px u → BX E u t → H.size ≤ H1.size → (∀ q : Nat, q < H.size → ¬ AX q → H1[q]? = H[q]?) → va_S A0 H0 H1 locs1 → H1[q9]? = some ce → ce.vm = .none → s.vm.findClass E = some ce.cls → vx_W p l e R s m args below meth c H1 locs1 (cells + mc) (slots + ms) Q (F0 m pc ls rest) q9)
    (kk : ∀ (r : Int64) (u : S) (t : State) (H1 : Heap) (locs1 : List Loc), t.heap = H1 → s.vm.Alike t.vm → post r u → B u t → H.size ≤ H1.size → (∀ q : Nat, q < H.size → ¬ A1 q → H1[q]? = H[q]?) → va_S A0 H0 H1 locs1 → W p l e R s m args below meth c H1 locs1 (cells + mc) (slots + ms) Q (F0 m (pc + 3) ls (.long r :: rest))) : W p l e R s m args below meth c H locs cells slots Q (F0 m pc ls st0) := by
  intro T hT X
  rcases hr T hT X with ⟨v, st₀, t, T', L, h0, X', hL, e1, e2, ⟨⟨r, u, hv, hp, hb⟩, hF⟩, st⟩ | ⟨q, st₀, t, T', L, E, ce, h0, X', hL, e1, e2, ⟨u, hp, hb, hF⟩, hce, hcv, hcl, st⟩
  · cases hv
    obtain ⟨k1, k2, k3⟩ := vx_keep h0 e1 hS hA hf hL hF
    obtain ⟨t2, a1, b1⟩ := kk r u t T'.heap (locs ++ L) e1.symm (by rw [← e2]; exact X'.warmed.alike) hp hb k1 k2 k3 T' rfl X'
    exact ⟨t2, st t2 a1, b1⟩
  · obtain ⟨k1, k2, k3⟩ := vx_keep h0 e1 hS hAX hf hL hF
    obtain ⟨t2, a1, b1⟩ := kx E ce q u t T'.heap (locs ++ L) e1.symm (by rw [← e2]; exact X'.warmed.alike) hp hb k1 k2 k3 (by rw [e1]; exact hce) hcv hcl T' rfl X'
    exact ⟨t2, st.trans a1, b1⟩
theorem vx_callf {S SX : Type} {post : UInt32 → S → Prop} {px : SX → Prop} {B : S → State → Prop} {BX : String → SX → State → Prop} {AX : Nat → Prop} (hr : vx_Run p l e R s m args below meth c H locs cells slots mc ms (F0 m pc ls st0) rest (va_Qf post B A1 a) (vx_X px BX AX) free) (hS : va_S A0 H0 H locs) (hA : ∀ q, q < H.size → A1 q → A0 q) (hf : ∀ q, free q → A0 q) (hAX : ∀ q, q < H.size → AX q → A0 q)
    (kx : ∀ (E : String) (ce : Cell) (q9 : Addr) (u : SX) (t : State) (H1 : Heap) (locs1 : List Loc), t.heap = H1 → s.vm.Alike t.vm → px u → BX E u t → H.size ≤ H1.size → (∀ q : Nat, q < H.size → ¬ AX q → H1[q]? = H[q]?) → va_S A0 H0 H1 locs1 → H1[q9]? = some ce → ce.vm = .none → s.vm.findClass E = some ce.cls → vx_W p l e R s m args below meth c H1 locs1 (cells + mc) (slots + ms) Q (F0 m pc ls rest) q9)
    (kk : ∀ (r : UInt32) (u : S) (t : State) (H1 : Heap) (locs1 : List Loc), t.heap = H1 → s.vm.Alike t.vm → post r u → B u t → H.size ≤ H1.size → (∀ q : Nat, q < H.size → ¬ A1 q → H1[q]? = H[q]?) → va_S A0 H0 H1 locs1 → W p l e R s m args below meth c H1 locs1 (cells + mc) (slots + ms) Q (F0 m (pc + 3) ls (.float r :: rest))) : W p l e R s m args below meth c H locs cells slots Q (F0 m pc ls st0) := by
  intro T hT X
  rcases hr T hT X with ⟨v, st₀, t, T', L, h0, X', hL, e1, e2, ⟨⟨r, u, hv, hp, hb⟩, hF⟩, st⟩ | ⟨q, st₀, t, T', L, E, ce, h0, X', hL, e1, e2, ⟨u, hp, hb, hF⟩, hce, hcv, hcl, st⟩
  · cases hv
    obtain ⟨k1, k2, k3⟩ := vx_keep h0 e1 hS hA hf hL hF
    obtain ⟨t2, a1, b1⟩ := kk r u t T'.heap (locs ++ L) e1.symm (by rw [← e2]; exact X'.warmed.alike) hp hb k1 k2 k3 T' rfl X'
    exact ⟨t2, st t2 a1, b1⟩
  · obtain ⟨k1, k2, k3⟩ := vx_keep h0 e1 hS hAX hf hL hF
    obtain ⟨t2, a1, b1⟩ := kx E ce q u t T'.heap (locs ++ L) e1.symm (by rw [← e2]; exact X'.warmed.alike) hp hb k1 k2 k3 (by rw [e1]; exact hce) hcv hcl T' rfl X'
    exact ⟨t2, st.trans a1, b1⟩
theorem vx_calld {S SX : Type} {post : UInt64 → S → Prop} {px : SX → Prop} {B : S → State → Prop} {BX : String → SX → State → Prop} {AX : Nat → Prop} (hr : vx_Run p l e R s m args below meth c H locs cells slots mc ms (F0 m pc ls st0) rest (va_Qd post B A1 a) (vx_X px BX AX) free) (hS : va_S A0 H0 H locs) (hA : ∀ q, q < H.size → A1 q → A0 q) (hf : ∀ q, free q → A0 q) (hAX : ∀ q, q < H.size → AX q → A0 q)
    (kx : ∀ (E : String) (ce : Cell) (q9 : Addr) (u : SX) (t : State) (H1 : Heap) (locs1 : List Loc), t.heap = H1 → s.vm.Alike t.vm → px u → BX E u t → H.size ≤ H1.size → (∀ q : Nat, q < H.size → ¬ AX q → H1[q]? = H[q]?) → va_S A0 H0 H1 locs1 → H1[q9]? = some ce → ce.vm = .none → s.vm.findClass E = some ce.cls → vx_W p l e R s m args below meth c H1 locs1 (cells + mc) (slots + ms) Q (F0 m pc ls rest) q9)
    (kk : ∀ (r : UInt64) (u : S) (t : State) (H1 : Heap) (locs1 : List Loc), t.heap = H1 → s.vm.Alike t.vm → post r u → B u t → H.size ≤ H1.size → (∀ q : Nat, q < H.size → ¬ A1 q → H1[q]? = H[q]?) → va_S A0 H0 H1 locs1 → W p l e R s m args below meth c H1 locs1 (cells + mc) (slots + ms) Q (F0 m (pc + 3) ls (.double r :: rest))) : W p l e R s m args below meth c H locs cells slots Q (F0 m pc ls st0) := by
  intro T hT X
  rcases hr T hT X with ⟨v, st₀, t, T', L, h0, X', hL, e1, e2, ⟨⟨r, u, hv, hp, hb⟩, hF⟩, st⟩ | ⟨q, st₀, t, T', L, E, ce, h0, X', hL, e1, e2, ⟨u, hp, hb, hF⟩, hce, hcv, hcl, st⟩
  · cases hv
    obtain ⟨k1, k2, k3⟩ := vx_keep h0 e1 hS hA hf hL hF
    obtain ⟨t2, a1, b1⟩ := kk r u t T'.heap (locs ++ L) e1.symm (by rw [← e2]; exact X'.warmed.alike) hp hb k1 k2 k3 T' rfl X'
    exact ⟨t2, st t2 a1, b1⟩
  · obtain ⟨k1, k2, k3⟩ := vx_keep h0 e1 hS hAX hf hL hF
    obtain ⟨t2, a1, b1⟩ := kx E ce q u t T'.heap (locs ++ L) e1.symm (by rw [← e2]; exact X'.warmed.alike) hp hb k1 k2 k3 (by rw [e1]; exact hce) hcv hcl T' rfl X'
    exact ⟨t2, st.trans a1, b1⟩
theorem vx_callv {S SX : Type} {post : S → Prop} {px : SX → Prop} {B : S → State → Prop} {BX : String → SX → State → Prop} {AX : Nat → Prop} (hr : vx_Run p l e R s m args below meth c H locs cells slots mc ms (F0 m pc ls st0) rest (va_Qv post B A1 a) (vx_X px BX AX) free) (hS : va_S A0 H0 H locs) (hA : ∀ q, q < H.size → A1 q → A0 q) (hf : ∀ q, free q → A0 q) (hAX : ∀ q, q < H.size → AX q → A0 q)
    (kx : ∀ (E : String) (ce : Cell) (q9 : Addr) (u : SX) (t : State) (H1 : Heap) (locs1 : List Loc), t.heap = H1 → s.vm.Alike t.vm → px u → BX E u t → H.size ≤ H1.size → (∀ q : Nat, q < H.size → ¬ AX q → H1[q]? = H[q]?) → va_S A0 H0 H1 locs1 → H1[q9]? = some ce → ce.vm = .none → s.vm.findClass E = some ce.cls → vx_W p l e R s m args below meth c H1 locs1 (cells + mc) (slots + ms) Q (F0 m pc ls rest) q9)
    (kk : ∀ (u : S) (t : State) (H1 : Heap) (locs1 : List Loc), t.heap = H1 → s.vm.Alike t.vm → post u → B u t → H.size ≤ H1.size → (∀ q : Nat, q < H.size → ¬ A1 q → H1[q]? = H[q]?) → va_S A0 H0 H1 locs1 → W p l e R s m args below meth c H1 locs1 (cells + mc) (slots + ms) Q (F0 m (pc + 3) ls (rest))) : W p l e R s m args below meth c H locs cells slots Q (F0 m pc ls st0) := by
  intro T hT X
  rcases hr T hT X with ⟨v, st₀, t, T', L, h0, X', hL, e1, e2, ⟨⟨u, hv, hp, hb⟩, hF⟩, st⟩ | ⟨q, st₀, t, T', L, E, ce, h0, X', hL, e1, e2, ⟨u, hp, hb, hF⟩, hce, hcv, hcl, st⟩
  · cases hv
    obtain ⟨k1, k2, k3⟩ := vx_keep h0 e1 hS hA hf hL hF
    obtain ⟨t2, a1, b1⟩ := kk u t T'.heap (locs ++ L) e1.symm (by rw [← e2]; exact X'.warmed.alike) hp hb k1 k2 k3 T' rfl X'
    exact ⟨t2, st t2 a1, b1⟩
  · obtain ⟨k1, k2, k3⟩ := vx_keep h0 e1 hS hAX hf hL hF
    obtain ⟨t2, a1, b1⟩ := kx E ce q u t T'.heap (locs ++ L) e1.symm (by rw [← e2]; exact X'.warmed.alike) hp hb k1 k2 k3 (by rw [e1]; exact hce) hcv hcl T' rfl X'
    exact ⟨t2, st.trans a1, b1⟩
/-- caught by the row x of this method's table; the rows ahead don't take it -/
theorem vx_catch {own name : String} {E : String} {ce : Cell} {q : Addr} (hown : s.vm.findClass own = some m.cls) (pre : List ExceptionTableEntry) (x : ExceptionTableEntry) (suf : List ExceptionTableEntry) (hsplit : c.exceptionTable.toList = pre ++ x :: suf)
    (hpass : ∀ z ∈ pre, covers z pc = false ∨ (z.catchType ≠ 0 ∧ ∃ nm : String, (Cond.classLink own z.catchType nm).before args s = true ∧ va_Nc E nm s)) (hx : covers x pc = true) (h0 : x.catchType ≠ 0)
    (hlink : (Cond.classLink own x.catchType name).before args s = true) (hcast : (Cond.castable E name).before args s = true) (hcell : H[q]? = some ce) (hv : ce.vm = .none) (hcl : s.vm.findClass E = some ce.cls)
    (kk : W p l e R s m args below meth c H locs cells slots Q (F0 m x.handlerPc ls [.ref q])) : vx_W p l e R s m args below meth c H locs cells slots Q (F0 m pc ls rest) q := by
  intro T hT X
  have hpl : e.platform.magicAccessors = ({} : Platform).magicAccessors := by rw [X.admits.platform]
  obtain ⟨c3, c4, hc3, hc4, hasg⟩ := Cond.castable_spec hcast
  cases Option.some.inj (hc3.symm.trans hcl)
  obtain ⟨c5, hc5, hcl5⟩ := Cond.classLink_spec hown hlink e.platform hpl
  cases Option.some.inj (hc4.symm.trans hc5)
  obtain ⟨vm', X', st⟩ := X.thenCaughtThrough q (g := F0 m pc ls rest) rfl (Steps.refl _) (by rw [hT]; exact hcell) (by rw [hv]; rfl) (by obtain ⟨k9, h9, -⟩ := Vm.findClass_spec hcl; exact ⟨k9, h9⟩) pre x suf hsplit
    (fun z hz => by
      rcases hpass z hz with h | ⟨hz0, nm, hl1, hn1⟩
      · exact Or.inl h
      · obtain ⟨c6, hc6, hcl6⟩ := Cond.classLink_spec hown hl1 e.platform hpl
        obtain ⟨a8, b8, h1, h2, h3⟩ := hn1
        cases Option.some.inj (h1.symm.trans hcl)
        cases Option.some.inj (h2.symm.trans hc6)
        exact Or.inr ⟨hz0, _, hcl6, h3⟩) hx (Or.inr ⟨h0, c4, hcl5, hasg⟩)
  obtain ⟨t, a1, b1⟩ := kk (T.setVm vm') hT X'
  exact ⟨t, st.trans a1, b1⟩
end Rows
section Ends
variable {p : Program} {l : Launch} {e : Env} {R : Room} {s : State} {m : MethodId} {args : Array Value} {below : List Frame} {meth : Method} {c : Code} {H : Heap} {locs : List Loc} {cells slots : Nat} {Q : State → Prop}
variable {mc ms : Nat} {free : Addr → Prop} {A0 A1 : Nat → Prop} {H0 : Heap} {a : Array Value} {ls : Array Slot} {st0 rest : List Value}
variable {Qc : Array Value → State → Outcome → State → Prop} {XC : String → State → State → Prop}
/-- what a body that may throw owes at its end -/
def vx_MQ (below : List Frame) (Qc : Array Value → State → Outcome → State → Prop) (XC : String → State → State → Prop) (a : Array Value) (s : State) (mc ms : Nat) (free : Addr → Prop) : State → Prop := fun t =>
  ∃ o, t.status = .running ∧ Ended t below o ∧ vx_Q Qc XC mc ms free a s o t
theorem vx_ret {g : JFrame} {mc ms : Nat} (k : W p l e R s m args below meth c H locs cells slots (MQ below Qc args s mc ms free) g) : W p l e R s m args below meth c H locs cells slots (vx_MQ below Qc XC args s mc ms free) g := by
  intro T hT X
  obtain ⟨t, a1, o, b1, b2, b3, b4⟩ := k T hT X
  exact ⟨t, a1, o, b1, b2, Or.inl ⟨b3, b4⟩⟩
/-- not caught here: it goes on to the caller -/
theorem vx_widen {g : JFrame} {q : Addr} {k n : Nat} (h1 : cells ≤ k) (h2 : slots ≤ n) (kk : vx_W p l e R s m args below meth c H locs k n Q g q) : vx_W p l e R s m args below meth c H locs cells slots Q g q := fun T hT X => kk T hT (stand_widen X h1 h2)
theorem vx_out {pc : Nat} {E : String} {ce : Cell} {q : Addr} {mc ms : Nat} (hout : ∀ x ∈ c.exceptionTable.toList, covers x pc = false) (hlocks : meth.locks = false) (hcell : H[q]? = some ce) (hv : ce.vm = .none) (hcl : s.vm.findClass E = some ce.cls)
    (hx : ∀ t : State, t.heap = H → s.vm.Alike t.vm → XC E s t) (hf : ∀ z ∈ locs, free z.base) (hc : cells ≤ mc) (hs : slots ≤ ms) :
    vx_W p l e R s m args below meth c H locs cells slots (vx_MQ below Qc XC args s mc ms free) (F0 m pc ls rest) q := by
  intro T hT X
  obtain ⟨st1, hrun, hend, hW, hsm⟩ := X.leaveThrown q (g := F0 m pc ls rest) rfl rfl rfl hout hlocks
  have hcell9 : (T.setFrames (.throwing q :: below)).heap[q]? = some ce := by
    show T.heap[q]? = some ce
    rw [hT]; exact hcell
  exact ⟨_, st1, .threw q, hrun, hend, Or.inr ⟨q, rfl, E, ce, locs, hx _ hT hW.alike, hcell9, hv, hcl, hW, hsm.mono hc hs, hf⟩⟩
theorem vx_frame {U : State} {k n : Nat} (h : s.sameButNew ({ U with vm := s.vm } : State) locs k n) : s.heap.size ≤ U.heap.size ∧ ∀ q : Nat, q < s.heap.size → (∀ z ∈ locs, z.base ≠ q) → U.heap[q]? = s.heap[q]? := by
  obtain ⟨-, h2, -, -, -, h6⟩ := h
  refine ⟨h2, fun q hq hz => ?_⟩
  obtain ⟨c9, e1, e2, e3, e4⟩ := h6 q _ (Array.getElem?_eq_getElem hq)
  have hs : c9.slots = (s.heap[q]).slots := Array.ext_getElem? fun i => e4 i fun hm => hz _ hm rfl
  have h9 : c9 = s.heap[q] := by
    rw [hs] at e2
    exact e2
  have e5 : U.heap[q]? = some c9 := e1
  rw [e5, h9, Array.getElem?_eq_getElem hq]
/-- the words of a throw but the four that speak of the heap -/
def vx_no (w : Cond) : Bool := decide (w ≠ .isRef (.static Bundle.tN "UNASSIGNED_STACK" Bundle.steD)) && decide (w ≠ .isRef (.static Bundle.tN "SUPPRESSED_SENTINEL" Bundle.listD)) && decide (w ≠ .laysStatic Bundle.tN "UNASSIGNED_STACK" Bundle.steD) && decide (w ≠ .laysStatic Bundle.tN "SUPPRESSED_SENTINEL" Bundle.listD)
def vx_at0 (own : String) (ic : Nat) (X : String) (names : List String) : List Cond := (Bundle.ownAtoms0 own ic X names).filter vx_no
def vx_atS (own : String) (ic : Nat) (X : String) (names : List String) : List Cond := (Bundle.ownAtoms own ic X names).filter vx_no
/-- a word that the tables alone decide, or a good one -/
def vx_ot (w : Cond) : Bool := w.onTables || goodWord w
theorem vx_ot_at {args a' : Array Value} {s U : State} {w : Cond} (hW : s.WarmedH U.vm) (hvm : s.vm = U.vm) (hg : vx_ot w = true) (h : w.before args s = true) : w.before a' U = true := by
  simp only [vx_ot, Bool.or_eq_true] at hg
  rcases hg with hg | hg
  · exact va_tabs hg hvm h
  · exact word_at hW (good_of_word hg) h
/-- a list's words: the good ones out of the method's own list, the others by premises of their own -/
theorem vx_hat {args : Array Value} {s : State} {L B : List Cond} (h1 : ∀ w ∈ L.filter goodWord, w.before args s = true) (h2 : ∀ w ∈ L.filter (fun w => !goodWord w), w ∈ B) (h3 : ∀ w ∈ B, w.before args s = true) : ∀ w ∈ L, w.before args s = true := by
  intro w hw
  by_cases g : goodWord w = true
  · exact h1 w (List.mem_filter.mpr ⟨hw, g⟩)
  · refine h3 w (h2 w (List.mem_filter.mpr ⟨hw, ?_⟩))
    show (!goodWord w) = true
    cases hgw : goodWord w
    · rfl
    · exact absurd hgw g
theorem vx_c {args : Array Value} {s : State} {w : Cond} {B : List Cond} (h : w.before args s = true) (t : ∀ w ∈ B, w.before args s = true) : ∀ w' ∈ w :: B, w'.before args s = true := fun w' h' => (List.mem_cons.mp h').elim (fun e => by rw [e]; exact h) (t w')
theorem vx_n {args : Array Value} {s : State} : ∀ w ∈ ([] : List Cond), w.before args s = true := fun _ h => nomatch h
theorem vx_own {args : Array Value} {s : State} {L : List Cond} (h1 : ∀ w ∈ L.filter vx_no, w.before args s = true)
    (hU : (Cond.isRef (.static Bundle.tN "UNASSIGNED_STACK" Bundle.steD)).before args s = true) (hN : (Cond.isRef (.static Bundle.tN "SUPPRESSED_SENTINEL" Bundle.listD)).before args s = true)
    (lU : (Cond.laysStatic Bundle.tN "UNASSIGNED_STACK" Bundle.steD).before args s = true) (lN : (Cond.laysStatic Bundle.tN "SUPPRESSED_SENTINEL" Bundle.listD).before args s = true) : ∀ w ∈ L, w.before args s = true := by
  intro w hw
  by_cases e1 : w = .isRef (.static Bundle.tN "UNASSIGNED_STACK" Bundle.steD)
  · rw [e1]; exact hU
  · by_cases e2 : w = .isRef (.static Bundle.tN "SUPPRESSED_SENTINEL" Bundle.listD)
    · rw [e2]; exact hN
    · by_cases e3 : w = .laysStatic Bundle.tN "UNASSIGNED_STACK" Bundle.steD
      · rw [e3]; exact lU
      · by_cases e4 : w = .laysStatic Bundle.tN "SUPPRESSED_SENTINEL" Bundle.listD
        · rw [e4]; exact lN
        · exact h1 w (List.mem_filter.mpr ⟨hw, by unfold vx_no; rw [decide_eq_true e1, decide_eq_true e2, decide_eq_true e3, decide_eq_true e4]; rfl⟩)
/-- where a static field lies, its class's statics cell in H -/
def vx_L (C n d : String) (A : Nat → Prop) (U : State) (H : Heap) : Prop := ∃ (c : ClassId) (k : Class) (i : Nat) (f : Field) (a : Nat) (cell : Cell), U.vm.findClass C = some c ∧ U.fieldFound? C n d = some (c, k, i, f) ∧ f.isStatic = true ∧ k.statics = some a ∧ H[a]? = some cell ∧ cell.vm.isStatics = true ∧ cell.cls = c ∧ f.slot < cell.slots.size ∧ k.staticTypes[f.slot]? = some f.type ∧ ¬ A a
theorem vx_L.moved {C n d : String} {A : Nat → Prop} {u U : State} {H : Heap} (hvm : u.vm.Alike U.vm) (h : vx_L C n d A u H) : vx_L C n d A U H := by
  obtain ⟨c, k, i, f, a, cell, h1, h2, h3, h4, h5, h6, h7, h8, h9, h10⟩ := h
  obtain ⟨k', hi', he⟩ := State.fieldFound?_setVm hvm h2
  exact ⟨c, k', i, f, a, cell, by rw [hvm.findClass]; exact h1, hi', h3, by rw [he]; exact h4, h5, h6, h7, h8, by rw [he]; exact h9, h10⟩
theorem vx_L.kept {C n d : String} {A : Nat → Prop} {U : State} {H H1 : Heap} (h : vx_L C n d A U H) (hq : ∀ a : Nat, a < H.size → ¬ A a → H1[a]? = H[a]?) : vx_L C n d A U H1 := by
  obtain ⟨c, k, i, f, a, cell, h1, h2, h3, h4, h5, h6, h7, h8, h9, h10⟩ := h
  exact ⟨c, k, i, f, a, cell, h1, h2, h3, h4, by rw [hq a (Array.getElem?_eq_some_iff.mp h5).1 h10]; exact h5, h6, h7, h8, h9, h10⟩
theorem vx_L.narrow {C n d : String} {A B : Nat → Prop} {U : State} {H : Heap} (h : vx_L C n d A U H) (hAB : ∀ q, B q → A q) : vx_L C n d B U H := by
  obtain ⟨c, k, i, f, a, cell, h1, h2, h3, h4, h5, h6, h7, h8, h9, h10⟩ := h
  exact ⟨c, k, i, f, a, cell, h1, h2, h3, h4, h5, h6, h7, h8, h9, fun z => h10 (hAB _ z)⟩
theorem vx_L.word {C n d : String} {A : Nat → Prop} {s : State} {args : Array Value} (h : vx_L C n d A s s.heap) : (Cond.laysStatic C n d).before args s = true := by
  obtain ⟨c, k, i, f, a, cell, h1, h2, h3, h4, h5, h6, h7, h8, h9, -⟩ := h
  show (Cond.laysStatic C n d).holds args s none s [] = true
  exact Cond.laysStatic_of h1 h2 h3 h4 h5 h6 h7 h8 h9
/-- .. and what it holds: null or some reference -/
def vx_Zq (C n d : String) (A : Nat → Prop) (U : State) (H : Heap) : Prop := va_Zq C n d A U H ∧ vx_L C n d A U H
theorem vx_Zq.moved {C n d : String} {A : Nat → Prop} {u U : State} {H : Heap} (hvm : u.vm.Alike U.vm) (h : vx_Zq C n d A u H) : vx_Zq C n d A U H := ⟨va_Zq.moved hvm h.1, vx_L.moved hvm h.2⟩
theorem vx_Zq.kept {C n d : String} {A : Nat → Prop} {U : State} {H H1 : Heap} (h : vx_Zq C n d A U H) (hq : ∀ a : Nat, a < H.size → ¬ A a → H1[a]? = H[a]?) : vx_Zq C n d A U H1 := ⟨va_Zq.kept h.1 hq, vx_L.kept h.2 hq⟩
theorem vx_Zq.narrow {C n d : String} {A B : Nat → Prop} {U : State} {H : Heap} (h : vx_Zq C n d A U H) (hAB : ∀ q, B q → A q) : vx_Zq C n d B U H := ⟨va_Zq.narrow h.1 hAB, vx_L.narrow h.2 hAB⟩
theorem vx_Zqof {args : Array Value} {s : State} {C n d : String} {A : Nat → Prop} (hl : (Cond.laysStatic C n d).before args s = true) (hini : (Cond.initialized C).before args s = true) (h : (Cond.isRef (.static C n d)).before args s = true) (hA : ∀ a : Nat, a < s.heap.size → ¬ A a) : vx_Zq C n d A s s.heap := by
  refine ⟨va_Zqof hl hini h hA, ?_⟩
  obtain ⟨c, k, i, f, a, cell, h1, h2, h3, h4, h5, h6, h7, h8, h9⟩ := Cond.laysStatic_spec hl
  exact ⟨c, k, i, f, a, cell, h1, h2, h3, h4, h5, h6, h7, h8, h9, hA a (Array.getElem?_eq_some_iff.mp h5).1⟩
theorem vx_isRef {C n d : String} {v : Value} {A : Nat → Prop} {s : State} {args : Array Value} (h : va_Z C n d v A s s.heap) (hv : v.isRef = true) : (Cond.isRef (.static C n d)).before args s = true := by
  obtain ⟨cf, kf, fi, f, a, cell, h1, h2, h3, h4, h5, h6, h7, -⟩ := h
  have he : (Term.static C n d).eval args s none [] s = some v := by
    simp [Term.eval, State.fieldNamed?, h1, h2, h4, h5, h6, h7]
  simp only [Cond.before, Cond.holds, Cond.value, he]
  cases v <;> simp_all [Value.isRef]
theorem vx_isRefq {C n d : String} {A : Nat → Prop} {s : State} {args : Array Value} (h : va_Zq C n d A s s.heap) : (Cond.isRef (.static C n d)).before args s = true := by
  rcases h with h | ⟨t, h⟩
  · exact vx_isRef h rfl
  · exact vx_isRef h rfl
/-- the same frame, seen from here: as if the method were called anew in this heap -/
theorem vx_rebase {T : State} (X : Stand p l e R s m args below meth c T locs cells slots) {R' : Room} (hf : R'.frames ≤ R.frames) (hl : R'.locals ≤ R.locals) (hc : cells + R'.cells ≤ R.cells) (hs : slots + R'.slots ≤ R.slots) :
    Stand p l e R' ((T.setVm s.vm).setFrames (.invoking m args :: below)) m args below meth c T [] 0 0 := by
  have htop : (T.setVm s.vm).topJava?.isSome := X.here.top
  have hF : ((T.setVm s.vm).setFrames (.invoking m args :: below)).frames = .invoking m args :: below := State.frames_setFrames _ (State.cur_lt_of_top htop)
  obtain ⟨g₀, hg0⟩ := Option.isSome_iff_exists.mp htop
  obtain ⟨r, hr⟩ := State.topJava?_eq_some.mp hg0
  have hl9 : e.platform.stackLimits (T.setVm s.vm).me = e.platform.stackLimits s.me := X.limits
  have hb9 : (T.setVm s.vm).me.stackBytes = s.me.stackBytes := X.bytes
  refine ⟨X.admits, X.cas, X.clock, hF, ?_, X.hears, X.method, X.code, X.here, X.tail, X.warmed, ?_, ?_, ?_⟩
  · have h := X.room
    have hU : ((T.setVm s.vm).setFrames (.invoking m args :: below)).localsInUse = s.localsInUse := by
      rw [State.localsInUse_invoking hF (meth := meth) (c := c) X.method X.code, State.localsInUse_invoking X.frames X.method X.code]
    simp only [State.hasRoom, Bool.and_eq_true, decide_eq_true_eq] at h ⊢
    obtain ⟨⟨⟨⟨h1, h2, h3, h4, h5, h6⟩, h7⟩, h8⟩, h9⟩ := h
    rw [X.frames, List.length_cons] at h2 h3
    have q1 := X.heapSize
    have q2 := X.used
    simp only [hF, hU, List.length_cons, State.stackLimits_setFrames, State.stackBytes_setFrames, hl9, hb9]
    refine ⟨⟨⟨⟨by omega, by omega, by omega, by omega, by omega, h6⟩, ?_⟩, ?_⟩, X.book⟩
    · show T.heap.size + R'.cells ≤ e.platform.maxCells
      omega
    · show T.slotsUsed + R'.slots ≤ e.platform.maxSlots
      omega
  · rw [State.stackLimits_setFrames]; rfl
  · rw [State.stackBytes_setFrames]; rfl
  · refine ⟨?_, Nat.le_refl _, Nat.le_refl _, ?_, ?_, fun a c9 h9 => ⟨c9, h9, rfl, rfl, fun _ _ => rfl⟩⟩
    · obtain ⟨t, ht, -⟩ := State.frames_cons hr
      show T.setVm s.vm = { ((T.setVm s.vm).setFrames (.invoking m args :: below)).setFrames (T.setVm s.vm).frames with heap := T.heap, slotsUsed := T.slotsUsed }
      rw [State.setFrames_setFrames, State.setFrames_self ht]
      rfl
    · show T.slotsUsed = T.slotsUsed + ((T.heap.toList.drop T.heap.size).map (·.slots.size)).sum
      rw [List.drop_eq_nil_of_le (Nat.le_of_eq Array.length_toList)]
      rfl
    · show ((T.heap.toList.drop T.heap.size).map (·.slots.size)).sum ≤ 0
      rw [List.drop_eq_nil_of_le (Nat.le_of_eq Array.length_toList)]
      exact Nat.le_refl _
/-- 'throw new E()': new; dup; invokespecial; athrow -/
theorem vx_throw0 {cc : ByteArray} {pc : Nat} (hexec : p.tables.exec = Jvm.exec) (hb : c.code = cc) (hl : l.stackTraces = false) {own cls : String} {names : List String} {ik ic mc ms : Nat} {A : Nat → Prop}
    (hown : s.vm.findClass own = some m.cls) (hcls : Bundle.fit cls = true) (hnames : ∀ n ∈ names, Bundle.fit n = true)
    (hk : (Cond.classLink own ik cls).before args s = true) (hini : (Cond.initialized cls).before args s = true) (hat : ∀ w ∈ vx_at0 own ic cls names, w.before args s = true)
    (hgood : ∀ w ∈ Cond.classLink own ik cls :: Cond.initialized cls :: vx_at0 own ic cls names, vx_ot w = true)
    (hU : vx_Zq Bundle.tN "UNASSIGNED_STACK" Bundle.steD A s s.heap) (hN : vx_Zq Bundle.tN "SUPPRESSED_SENTINEL" Bundle.listD A s s.heap) (hS : va_S A s.heap H locs) (hsize : ls.size = c.maxLocals)
    (d0 : decode cc pc = .ok (.new ik, 3)) (d3 : decode cc (pc + 3) = .ok (.dup, 1)) (d4 : decode cc (pc + 4) = .ok (.invokespecial ic, 3)) (d7 : decode cc (pc + 7) = .ok (.athrow, 1))
    (hout : ∀ x ∈ c.exceptionTable.toList, covers x (pc + 7) = false)
    (hRframes : names.length + 3 < R.frames) (hRlocals : (rest.map fun v => v.category).sum + (13 * (names.length + 1) + 42) ≤ R.locals) (hRcells : cells + 1 ≤ R.cells) (hRslots : slots + 6 ≤ R.slots) (hlocks : meth.locks = false)
    (hx : ∀ t : State, s.vm.Alike t.vm → H.size ≤ t.heap.size → (∀ q : Nat, q < H.size → t.heap[q]? = H[q]?) → XC cls s t)
    (hf : ∀ z ∈ locs, free z.base) (hc : cells + 1 ≤ mc) (hs : slots + 6 ≤ ms) :
    W p l e R s m args below meth c H locs cells slots (vx_MQ below Qc XC args s mc ms free) (F0 m pc ls rest) := by
  intro T hT X
  have htr : e.platform.stackTraces = false := (show e.platform.stackTraces = l.stackTraces by rw [X.admits.platform]).trans hl
  have Y := vx_rebase X (R' := { frames := R.frames, locals := R.locals, cells := 1, slots := 6 }) (Nat.le_refl _) (Nat.le_refl _) hRcells hRslots
  obtain ⟨s', hA⟩ : ∃ z, z = (T.setVm s.vm).setFrames (.invoking m args :: below) := ⟨_, rfl⟩
  rw [← hA] at Y
  have hvm : s'.vm = s.vm := by rw [hA]; rfl
  have hhp : s'.heap = H := by rw [hA]; exact hT
  have hW0 : s.WarmedH s'.vm := by rw [hvm]; exact State.WarmedH.refl s
  have hat' : ∀ w ∈ vx_at0 own ic cls names, w.before args s' = true := fun w hw => vx_ot_at hW0 hvm.symm (hgood w (List.mem_cons_of_mem _ (List.mem_cons_of_mem _ hw))) (hat w hw)
  have hk' : (Cond.classLink own ik cls).before args s' = true := vx_ot_at hW0 hvm.symm (hgood _ List.mem_cons_self) hk
  have hini' : (Cond.initialized cls).before args s' = true := vx_ot_at hW0 hvm.symm (hgood _ (List.mem_cons_of_mem _ List.mem_cons_self)) hini
  have hU' : vx_Zq Bundle.tN "UNASSIGNED_STACK" Bundle.steD A s' s'.heap := by rw [hhp]; exact vx_Zq.moved hW0.alike (hU.kept hS.2.1)
  have hN' : vx_Zq Bundle.tN "SUPPRESSED_SENTINEL" Bundle.listD A s' s'.heap := by rw [hhp]; exact vx_Zq.moved hW0.alike (hN.kept hS.2.1)
  have h : ∀ w ∈ Bundle.ownAtoms0 own ic cls names, w.before args s' = true := vx_own hat' (vx_isRefq hU'.1) (vx_isRefq hN'.1) hU'.2.word hN'.2.word
  have hown' : s'.vm.findClass own = some m.cls := by rw [hvm]; exact hown
  have hins : (Cond.instantiable cls 6).before args s' = true := h _ (by simp [Bundle.ownAtoms0])
  obtain ⟨vm₁, cX, kX, hfX, hkX, -, -, X₁, st1⟩ := Y.newCold hexec (own := own) (C := cls) (index := ik) (n := 6) hown' hk' hins hini'
    (g := F0 m pc ls rest) rfl (by rw [hb]; exact d0) (Nat.le_refl _) (Nat.le_refl _)
  generalize hT1 : (T.setVm vm₁).pushCell { cls := cX, slots := kX.instanceTypes.map defaultValue, vm := .none } = T1 at X₁ st1
  have hcat : (Value.ref T.heap.size).category = 1 := rfl
  have hcellA : T1.heap[T.heap.size]? = some (freshCell cX kX) := by rw [← hT1]; exact State.heap_pushCell_size _ _
  have d3' : decode c.code (pc + 3) = .ok (.dup, 1) := by rw [hb]; exact d3
  obtain ⟨U, hsteps, hrun, hend, hW, hsame, ce, hce, hO⟩ := X₁.ctorThrow0 hexec htr (own := own) (cls := cls) (names := names) (ic := ic) hown' hcls hnames h (fun x hx => nomatch hx) hfX hkX hcellA (by rw [hhp, hT]; exact Nat.le_refl _)
    (g := { method := m, pc := pc + 4, locals := ls, stack := .ref T.heap.size :: .ref T.heap.size :: rest, locked := none }) rfl hsize rfl rfl (rest := rest) rfl
    (by rw [hb]; exact d4) (by rw [hb]; exact d7) hout hRframes (by simp only [List.map_cons, List.sum_cons, hcat]; omega) hlocks
  obtain ⟨f1, f2⟩ := vx_frame hsame
  rw [hhp] at f1 f2
  have hWs : s.WarmedH U.vm := State.WarmedH.trans hW0 hW
  have hcl : s.vm.findClass cls = some ce.cls := by
    have h9 := hO.cls
    rw [hvm] at h9
    exact h9
  have hall : s.sameButNew ({ U with vm := s.vm } : State) locs mc ms := by
    subst hA
    obtain ⟨e1, e2⟩ := hsame
    rw [State.setFrames_setFrames] at e1
    have h2 : (T.setVm s.vm).sameButNew ({ U with vm := s.vm } : State) [] (0 + 1) (0 + 6) := ⟨e1, e2⟩
    have h3 := X.same.trans h2
    rw [List.append_nil] at h3
    exact h3.mono hc hs
  refine ⟨U, ?_, .threw T.heap.size, hrun, hend, Or.inr ⟨T.heap.size, rfl, cls, ce, locs, hx U hWs.alike f1 (fun q hq => f2 q hq (fun z hz => nomatch hz)), hce, hO.vm, hcl, hWs, hall, hf⟩⟩
  refine st1 _ ?_
  show Steps p.tables e below (T1.setTop { method := m, pc := pc + 3, locals := ls, stack := .ref T.heap.size :: rest, locked := none }) _
  jvm_step X₁.here [X₁.here.top, hexec, d3', Value.category]
  exact hsteps
/-- 'throw new E("text")': new; dup; ldc; invokespecial; athrow -/
theorem vx_throwS {cc : ByteArray} {pc : Nat} (hexec : p.tables.exec = Jvm.exec) (hb : c.code = cc) (hl : l.stackTraces = false) {own cls text : String} {names : List String} {ik is ic mc ms sa : Nat} {A : Nat → Prop}
    (hown : s.vm.findClass own = some m.cls) (hcls : Bundle.fit cls = true) (hnames : ∀ n ∈ names, Bundle.fit n = true)
    (hk : (Cond.classLink own ik cls).before args s = true) (hini : (Cond.initialized cls).before args s = true) (hstr : vk_R own is text sa s) (hat : ∀ w ∈ vx_atS own ic cls names, w.before args s = true)
    (hgood : ∀ w ∈ Cond.classLink own ik cls :: Cond.initialized cls :: vx_atS own ic cls names, vx_ot w = true)
    (hU : vx_Zq Bundle.tN "UNASSIGNED_STACK" Bundle.steD A s s.heap) (hN : vx_Zq Bundle.tN "SUPPRESSED_SENTINEL" Bundle.listD A s s.heap) (hS : va_S A s.heap H locs) (hsize : ls.size = c.maxLocals)
    (d0 : decode cc pc = .ok (.new ik, 3)) (d3 : decode cc (pc + 3) = .ok (.dup, 1)) (d4 : decode cc (pc + 4) = .ok (.ldc is, 2)) (d6 : decode cc (pc + 6) = .ok (.invokespecial ic, 3)) (d9 : decode cc (pc + 9) = .ok (.athrow, 1))
    (hout : ∀ x ∈ c.exceptionTable.toList, covers x (pc + 9) = false)
    (hRframes : names.length + 3 < R.frames) (hRlocals : (rest.map fun v => v.category).sum + (13 * (names.length + 1) + 43) ≤ R.locals) (hRcells : cells + 1 ≤ R.cells) (hRslots : slots + 6 ≤ R.slots) (hlocks : meth.locks = false)
    (hx : ∀ t : State, s.vm.Alike t.vm → H.size ≤ t.heap.size → (∀ q : Nat, q < H.size → t.heap[q]? = H[q]?) → XC cls s t)
    (hf : ∀ z ∈ locs, free z.base) (hc : cells + 1 ≤ mc) (hs : slots + 6 ≤ ms) :
    W p l e R s m args below meth c H locs cells slots (vx_MQ below Qc XC args s mc ms free) (F0 m pc ls rest) := by
  intro T hT X
  have htr : e.platform.stackTraces = false := (show e.platform.stackTraces = l.stackTraces by rw [X.admits.platform]).trans hl
  have Y := vx_rebase X (R' := { frames := R.frames, locals := R.locals, cells := 1, slots := 6 }) (Nat.le_refl _) (Nat.le_refl _) hRcells hRslots
  obtain ⟨s', hA⟩ : ∃ z, z = (T.setVm s.vm).setFrames (.invoking m args :: below) := ⟨_, rfl⟩
  rw [← hA] at Y
  have hvm : s'.vm = s.vm := by rw [hA]; rfl
  have hhp : s'.heap = H := by rw [hA]; exact hT
  have hW0 : s.WarmedH s'.vm := by rw [hvm]; exact State.WarmedH.refl s
  have hat' : ∀ w ∈ vx_atS own ic cls names, w.before args s' = true := fun w hw => vx_ot_at hW0 hvm.symm (hgood w (List.mem_cons_of_mem _ (List.mem_cons_of_mem _ hw))) (hat w hw)
  have hk' : (Cond.classLink own ik cls).before args s' = true := vx_ot_at hW0 hvm.symm (hgood _ List.mem_cons_self) hk
  have hini' : (Cond.initialized cls).before args s' = true := vx_ot_at hW0 hvm.symm (hgood _ (List.mem_cons_of_mem _ List.mem_cons_self)) hini
  have hU' : vx_Zq Bundle.tN "UNASSIGNED_STACK" Bundle.steD A s' s'.heap := by rw [hhp]; exact vx_Zq.moved hW0.alike (hU.kept hS.2.1)
  have hN' : vx_Zq Bundle.tN "SUPPRESSED_SENTINEL" Bundle.listD A s' s'.heap := by rw [hhp]; exact vx_Zq.moved hW0.alike (hN.kept hS.2.1)
  have h : ∀ w ∈ Bundle.ownAtoms own ic cls names, w.before args s' = true := vx_own hat' (vx_isRefq hU'.1) (vx_isRefq hN'.1) hU'.2.word hN'.2.word
  have hown' : s'.vm.findClass own = some m.cls := by rw [hvm]; exact hown
  have hins : (Cond.instantiable cls 6).before args s' = true := h _ (by simp [Bundle.ownAtoms])
  obtain ⟨vm₁, cX, kX, hfX, hkX, -, -, X₁, st1⟩ := Y.newCold hexec (own := own) (C := cls) (index := ik) (n := 6) hown' hk' hins hini'
    (g := F0 m pc ls rest) rfl (by rw [hb]; exact d0) (Nat.le_refl _) (Nat.le_refl _)
  generalize hT1 : (T.setVm vm₁).pushCell { cls := cX, slots := kX.instanceTypes.map defaultValue, vm := .none } = T1 at X₁ st1
  have hcat : (Value.ref T.heap.size).category = 1 := rfl
  have hcellA : T1.heap[T.heap.size]? = some (freshCell cX kX) := by rw [← hT1]; exact State.heap_pushCell_size _ _
  have d3' : decode c.code (pc + 3) = .ok (.dup, 1) := by rw [hb]; exact d3
  have d4' : decode c.code (pc + 4) = .ok (.ldc is, 2) := by rw [hb]; exact d4
  have hstr' : vk_R own is text sa s' := vk_R.warm hW0 hstr
  obtain ⟨U, hsteps, hrun, hend, hW, hsame, ce, hce, hO⟩ := X₁.ctorThrowS hexec htr (own := own) (cls := cls) (names := names) (ic := ic) hown' hcls hnames h (fun x hx => nomatch hx) hfX hkX hcellA (by rw [hhp, hT]; exact Nat.le_refl _) (msg := .ref sa) rfl
    (g := { method := m, pc := pc + 6, locals := ls, stack := .ref sa :: .ref T.heap.size :: .ref T.heap.size :: rest, locked := none }) rfl hsize rfl rfl (rest := rest) rfl
    (by rw [hb]; exact d6) (by rw [hb]; exact d9) hout hRframes (by simp only [List.map_cons, List.sum_cons, hcat]; omega) hlocks
  obtain ⟨f1, f2⟩ := vx_frame hsame
  rw [hhp] at f1 f2
  have hWs : s.WarmedH U.vm := State.WarmedH.trans hW0 hW
  have hcl : s.vm.findClass cls = some ce.cls := by
    have h9 := hO.cls
    rw [hvm] at h9
    exact h9
  have hall : s.sameButNew ({ U with vm := s.vm } : State) locs mc ms := by
    subst hA
    obtain ⟨e1, e2⟩ := hsame
    rw [State.setFrames_setFrames] at e1
    have h2 : (T.setVm s.vm).sameButNew ({ U with vm := s.vm } : State) [] (0 + 1) (0 + 6) := ⟨e1, e2⟩
    have h3 := X.same.trans h2
    rw [List.append_nil] at h3
    exact h3.mono hc hs
  refine ⟨U, ?_, .threw T.heap.size, hrun, hend, Or.inr ⟨T.heap.size, rfl, cls, ce, locs, hx U hWs.alike f1 (fun q hq => f2 q hq (fun z hz => nomatch hz)), hce, hO.vm, hcl, hWs, hall, hf⟩⟩
  refine st1 _ ?_
  show Steps p.tables e below (T1.setTop { method := m, pc := pc + 3, locals := ls, stack := .ref T.heap.size :: rest, locked := none }) _
  jvm_step X₁.here [X₁.here.top, hexec, d3', Value.category]
  exact X₁.ldcString hexec (own := own) (text := text) (index := is) (a := sa) hown' hstr'.1 hstr'.2
    (g := { method := m, pc := pc + 4, locals := ls, stack := .ref T.heap.size :: .ref T.heap.size :: rest, locked := none }) rfl d4' _ hsteps
/-- 'throw new E("text")', the text by a wide index -/
theorem vx_throwSW {cc : ByteArray} {pc : Nat} (hexec : p.tables.exec = Jvm.exec) (hb : c.code = cc) (hl : l.stackTraces = false) {own cls text : String} {names : List String} {ik is ic mc ms sa : Nat} {A : Nat → Prop}
    (hown : s.vm.findClass own = some m.cls) (hcls : Bundle.fit cls = true) (hnames : ∀ n ∈ names, Bundle.fit n = true)
    (hk : (Cond.classLink own ik cls).before args s = true) (hini : (Cond.initialized cls).before args s = true) (hstr : vk_R own is text sa s) (hat : ∀ w ∈ vx_atS own ic cls names, w.before args s = true)
    (hgood : ∀ w ∈ Cond.classLink own ik cls :: Cond.initialized cls :: vx_atS own ic cls names, vx_ot w = true)
    (hU : vx_Zq Bundle.tN "UNASSIGNED_STACK" Bundle.steD A s s.heap) (hN : vx_Zq Bundle.tN "SUPPRESSED_SENTINEL" Bundle.listD A s s.heap) (hS : va_S A s.heap H locs) (hsize : ls.size = c.maxLocals)
    (d0 : decode cc pc = .ok (.new ik, 3)) (d3 : decode cc (pc + 3) = .ok (.dup, 1)) (d4 : decode cc (pc + 4) = .ok (.ldc_w is, 3)) (d7 : decode cc (pc + 7) = .ok (.invokespecial ic, 3)) (d10 : decode cc (pc + 10) = .ok (.athrow, 1))
    (hout : ∀ x ∈ c.exceptionTable.toList, covers x (pc + 10) = false)
    (hRframes : names.length + 3 < R.frames) (hRlocals : (rest.map fun v => v.category).sum + (13 * (names.length + 1) + 43) ≤ R.locals) (hRcells : cells + 1 ≤ R.cells) (hRslots : slots + 6 ≤ R.slots) (hlocks : meth.locks = false)
    (hx : ∀ t : State, s.vm.Alike t.vm → H.size ≤ t.heap.size → (∀ q : Nat, q < H.size → t.heap[q]? = H[q]?) → XC cls s t)
    (hf : ∀ z ∈ locs, free z.base) (hc : cells + 1 ≤ mc) (hs : slots + 6 ≤ ms) :
    W p l e R s m args below meth c H locs cells slots (vx_MQ below Qc XC args s mc ms free) (F0 m pc ls rest) := by
  intro T hT X
  have htr : e.platform.stackTraces = false := (show e.platform.stackTraces = l.stackTraces by rw [X.admits.platform]).trans hl
  have Y := vx_rebase X (R' := { frames := R.frames, locals := R.locals, cells := 1, slots := 6 }) (Nat.le_refl _) (Nat.le_refl _) hRcells hRslots
  obtain ⟨s', hA⟩ : ∃ z, z = (T.setVm s.vm).setFrames (.invoking m args :: below) := ⟨_, rfl⟩
  rw [← hA] at Y
  have hvm : s'.vm = s.vm := by rw [hA]; rfl
  have hhp : s'.heap = H := by rw [hA]; exact hT
  have hW0 : s.WarmedH s'.vm := by rw [hvm]; exact State.WarmedH.refl s
  have hat' : ∀ w ∈ vx_atS own ic cls names, w.before args s' = true := fun w hw => vx_ot_at hW0 hvm.symm (hgood w (List.mem_cons_of_mem _ (List.mem_cons_of_mem _ hw))) (hat w hw)
  have hk' : (Cond.classLink own ik cls).before args s' = true := vx_ot_at hW0 hvm.symm (hgood _ List.mem_cons_self) hk
  have hini' : (Cond.initialized cls).before args s' = true := vx_ot_at hW0 hvm.symm (hgood _ (List.mem_cons_of_mem _ List.mem_cons_self)) hini
  have hU' : vx_Zq Bundle.tN "UNASSIGNED_STACK" Bundle.steD A s' s'.heap := by rw [hhp]; exact vx_Zq.moved hW0.alike (hU.kept hS.2.1)
  have hN' : vx_Zq Bundle.tN "SUPPRESSED_SENTINEL" Bundle.listD A s' s'.heap := by rw [hhp]; exact vx_Zq.moved hW0.alike (hN.kept hS.2.1)
  have h : ∀ w ∈ Bundle.ownAtoms own ic cls names, w.before args s' = true := vx_own hat' (vx_isRefq hU'.1) (vx_isRefq hN'.1) hU'.2.word hN'.2.word
  have hown' : s'.vm.findClass own = some m.cls := by rw [hvm]; exact hown
  have hins : (Cond.instantiable cls 6).before args s' = true := h _ (by simp [Bundle.ownAtoms])
  obtain ⟨vm₁, cX, kX, hfX, hkX, -, -, X₁, st1⟩ := Y.newCold hexec (own := own) (C := cls) (index := ik) (n := 6) hown' hk' hins hini'
    (g := F0 m pc ls rest) rfl (by rw [hb]; exact d0) (Nat.le_refl _) (Nat.le_refl _)
  generalize hT1 : (T.setVm vm₁).pushCell { cls := cX, slots := kX.instanceTypes.map defaultValue, vm := .none } = T1 at X₁ st1
  have hcat : (Value.ref T.heap.size).category = 1 := rfl
  have hcellA : T1.heap[T.heap.size]? = some (freshCell cX kX) := by rw [← hT1]; exact State.heap_pushCell_size _ _
  have d3' : decode c.code (pc + 3) = .ok (.dup, 1) := by rw [hb]; exact d3
  have d4' : decode c.code (pc + 4) = .ok (.ldc_w is, 3) := by rw [hb]; exact d4
  have hstr' : vk_R own is text sa s' := vk_R.warm hW0 hstr
  obtain ⟨U, hsteps, hrun, hend, hW, hsame, ce, hce, hO⟩ := X₁.ctorThrowS hexec htr (own := own) (cls := cls) (names := names) (ic := ic) hown' hcls hnames h (fun x hx => nomatch hx) hfX hkX hcellA (by rw [hhp, hT]; exact Nat.le_refl _) (msg := .ref sa) rfl
    (g := { method := m, pc := pc + 7, locals := ls, stack := .ref sa :: .ref T.heap.size :: .ref T.heap.size :: rest, locked := none }) rfl hsize rfl rfl (rest := rest) rfl
    (by rw [hb]; exact d7) (by rw [hb]; exact d10) hout hRframes (by simp only [List.map_cons, List.sum_cons, hcat]; omega) hlocks
  obtain ⟨f1, f2⟩ := vx_frame hsame
  rw [hhp] at f1 f2
  have hWs : s.WarmedH U.vm := State.WarmedH.trans hW0 hW
  have hcl : s.vm.findClass cls = some ce.cls := by
    have h9 := hO.cls
    rw [hvm] at h9
    exact h9
  have hall : s.sameButNew ({ U with vm := s.vm } : State) locs mc ms := by
    subst hA
    obtain ⟨e1, e2⟩ := hsame
    rw [State.setFrames_setFrames] at e1
    have h2 : (T.setVm s.vm).sameButNew ({ U with vm := s.vm } : State) [] (0 + 1) (0 + 6) := ⟨e1, e2⟩
    have h3 := X.same.trans h2
    rw [List.append_nil] at h3
    exact h3.mono hc hs
  refine ⟨U, ?_, .threw T.heap.size, hrun, hend, Or.inr ⟨T.heap.size, rfl, cls, ce, locs, hx U hWs.alike f1 (fun q hq => f2 q hq (fun z hz => nomatch hz)), hce, hO.vm, hcl, hWs, hall, hf⟩⟩
  refine st1 _ ?_
  show Steps p.tables e below (T1.setTop { method := m, pc := pc + 3, locals := ls, stack := .ref T.heap.size :: rest, locked := none }) _
  jvm_step X₁.here [X₁.here.top, hexec, d3', Value.category]
  exact X₁.ldcStringW hexec (own := own) (text := text) (index := is) (a := sa) hown' hstr'.1 hstr'.2
    (g := { method := m, pc := pc + 4, locals := ls, stack := .ref T.heap.size :: .ref T.heap.size :: rest, locked := none }) rfl d4' _ hsteps
end Ends
section Bodies
variable {l : Launch}
theorem vx_ofW {y : MethodName} {ws ws' : List Cond} {rm : Room} {Pc : Array Value → State → Prop} {Qc : Array Value → State → Outcome → State → Prop} {XC : String → State → State → Prop} {mc ms : Nat} {free : Addr → Prop} {cc : ByteArray} {maxL : Nat} {ret : Option FieldType}
    (hy : plainName y.cls = true) (hw : ws = Cond.code y cc maxL ret :: ws')
    (body : ∀ p e s m args below meth c s₁, BodyLoose p l y (headSpec ws rm) cc maxL ret e s m args below meth c s₁ → c.maxLocals = maxL → (∀ x ∈ c.exceptionTable.toList, False) → Pc args s →
      W p l e (headSpec ws rm).room s m args below meth c s.heap [] 0 0 (vx_MQ below Qc XC args s mc ms free) (entryFrame m args maxL)) : vx_Met l y ws rm Pc Qc XC mc ms free := by
  refine MetFree.of_bodyS (code := cc) (maxLocals := maxL) (ret := ret) hy ?_ ?_
  · intro args s m h hn
    obtain ⟨meth, c, h1, h2, h3, h4, h5, h6, -, -⟩ := Cond.code_spec hn (atoms_spec (ws := ws) h _ (by rw [hw]; exact List.mem_cons_self))
    exact ⟨meth, c, h1, h2, h3, h4, h5, h6⟩
  · intro p e s m args below meth c s₁ B hml hP _
    have hh0 : s₁.heap = s.heap := by rw [B.state]; rfl
    have ht : ∀ x ∈ c.exceptionTable.toList, False := by
      obtain ⟨meth9, c9, h1, h2, -, -, -, -, h7, -⟩ := Cond.code_spec B.named (atoms_spec (ws := ws) B.pre _ (by rw [hw]; exact List.mem_cons_self))
      cases Option.some.inj (h1.symm.trans B.method)
      cases Option.some.inj (h2.symm.trans (Stand.of_body B).code)
      intro x hx
      rw [Array.isEmpty_iff.mp h7] at hx
      cases hx
    obtain ⟨t, a1, o, b1, b2, b3⟩ := body p e s m args below meth c s₁ B hml ht hP s₁ hh0 (Stand.of_body B)
    exact ⟨t, o, a1, b1, b2, b3⟩
/-- the table of a body with handlers -/
theorem vx_table {p : Program} {x y : MethodName} {S : Spec} {cc bytes : ByteArray} {maxL maxL' : Nat} {ret ret' : Option FieldType} {e : Env} {s s₁ : State} {m : MethodId} {args : Array Value} {below : List Frame} {meth : Method} {c : Code} {hh : List (Nat × Nat × Nat × Nat)}
    (B : BodyLoose p l y S cc maxL ret e s m args below meth c s₁) (h : (Cond.codeWith y bytes maxL' ret' hh).before args s = true) : c.exceptionTable.toList = tableOf hh := by
  obtain ⟨m9, meth9, c9, hn9, h1, h2, -, -, h6, -⟩ := Cond.codeWith_spec h
  cases Option.some.inj (hn9.symm.trans B.named)
  cases Option.some.inj (h1.symm.trans B.method)
  cases Option.some.inj (h2.symm.trans (Stand.of_body B).code)
  rw [← h6, table_eq]
end Bodies
end VXA
/-! ===== END ===== -/
/-! ===== BEGIN a static call of a method with an exception table ===== -/
section VXS
variable {p : Program} {l : Launch} {e : Env} {R : Room} {s : State} {m : MethodId} {args : Array Value} {below : List Frame} {meth : Method} {c : Code} {T : State} {H : Heap} {locs : List Loc} {cells slots : Nat}
abbrev vx_CSW (R : Room) (s : State) (args : Array Value) (own : String) (index : Nat) (y : MethodName) (bytes : ByteArray) (maxL : Nat) (ret : Option FieldType) (hh : List (Nat × Nat × Nat × Nat)) (ws : List Cond) (rm : Room) (mc ms n : Nat) : Prop :=
  (rm.cells = mc ∧ rm.slots = ms ∧ rm.frames + 1 ≤ R.frames ∧ 8 + (maxL + 11) + rm.locals ≤ R.locals ∧ (∀ w ∈ ws, ∀ (a' : Array Value) (U : State), s.WarmedH U.vm → w.before a' U = true) ∧ Cond.codeWith y bytes maxL ret hh ∈ ws) ∧
  (Cond.codeWith y bytes maxL ret hh).before args s = true ∧ (Cond.initialized y.cls).before args s = true ∧ (y.cls ≠ "java/lang/invoke/MethodHandle" ∧ y.cls ≠ "java/lang/invoke/VarHandle") ∧
  (∀ sig, parseMethodDescriptor y.desc = some sig → n = sig.parameters.length) ∧ (Cond.methodLink own index y).before args s = true ∧ (Cond.static y).before args s = true
theorem vx_cwSW {own : String} {index maxL mc ms : Nat} {y : MethodName} {bytes : ByteArray} {ret : Option FieldType} {hh : List (Nat × Nat × Nat × Nat)} {Ts ws ws' : List Cond} {rm : Room} (n : Nat) (ht : ∀ w ∈ Ts, w.before args s = true) (hT : GoodIn Ts (va_wsS own index y ws)) (hw : ws = Cond.codeWith y bytes maxL ret hh :: ws') (hrc : rm.cells = mc) (hrs : rm.slots = ms)
    (hd : y.cls ≠ "java/lang/invoke/MethodHandle" ∧ y.cls ≠ "java/lang/invoke/VarHandle" ∧ (parseMethodDescriptor y.desc).map (fun d => d.parameters.length) = some n) (hR : rm.frames + 1 ≤ R.frames ∧ 8 + (maxL + 11) + rm.locals ≤ R.locals) :
    vx_CSW R s args own index y bytes maxL ret hh ws rm mc ms n := by
  have ok : ∀ w ∈ va_wsS own index y ws, w.before args s = true := fun w h => ht w (hT w h).1
  have hG : GoodIn Ts ws := fun w h => hT w (by unfold va_wsS; exact List.mem_append_right _ h)
  have hc : Cond.codeWith y bytes maxL ret hh ∈ ws := by rw [hw]; exact List.mem_cons_self
  refine ⟨⟨hrc, hrs, hR.1, hR.2, pay_in ht hG, hc⟩, ht _ (hG _ hc).1, ok _ (by simp [va_wsS]), ⟨hd.1, hd.2.1⟩, fun sig h => ?_, ok _ (by simp [va_wsS]), ok _ (by simp [va_wsS])⟩
  have h2 := hd.2.2
  rw [h] at h2
  exact (Option.some.inj h2).symm
theorem vx_callSW (X : Stand p l e R s m args below meth c T locs cells slots) (hexec : p.tables.exec = Jvm.exec) {own : String} {index : Nat} {y : MethodName} {bytes : ByteArray} {maxL : Nat} {ret : Option FieldType} {hh : List (Nat × Nat × Nat × Nat)}
    (hown : s.vm.findClass own = some m.cls) (hlink : (Cond.methodLink own index y).before args s = true) (hstat : (Cond.static y).before args s = true) (hinit : (Cond.initialized y.cls).before args s = true)
    (hcode : (Cond.codeWith y bytes maxL ret hh).before args s = true) (hy : y.cls ≠ "java/lang/invoke/MethodHandle" ∧ y.cls ≠ "java/lang/invoke/VarHandle")
    {W9 : Nat} {Pre : Pt → Array Value → Prop} {Post : Pt → Array Value → Option Value → Pt → Prop} (hK : Back l R p e below s args y 3 W9 Pre Post)
    {g : JFrame} (hg : g.method = m) (hsize : g.locals.size = c.maxLocals) {argsL rest : List Value} (hlen : ∀ sig, parseMethodDescriptor y.desc = some sig → argsL.length = sig.parameters.length)
    (hstack : g.stack = argsL.reverse ++ rest) (hW : 2 * g.monitorRoom + (rest.map fun v => v.category).sum ≤ W9) (hdg : decode c.code g.pc = .ok (.invokestatic index, 3))
    (hpre : ∀ vm₁, s.WarmedH vm₁ → Pre ⟨T.setVm vm₁, locs, cells, slots⟩ argsL.toArray) :
    ∃ (v : Option Value) (vm₁ : Vm) (B : Pt), s.WarmedH vm₁ ∧ Stand p l e R s m args below meth c B.U B.locs B.cells B.slots ∧ Post ⟨T.setVm vm₁, locs, cells, slots⟩ argsL.toArray v B ∧
      ∀ target, Steps p.tables e below (B.U.setTop { g with pc := g.pc + 3, stack := v.toList ++ rest }) target → Steps p.tables e below (T.setTop g) target := by
  obtain ⟨mk, methM, cM, hnamed, hmethM, -, -, -, -, -, -, hsigM⟩ := Cond.codeWith_spec hcode
  have hstatic : methM.isStatic = true := Cond.static_spec hnamed hmethM hstat
  obtain ⟨kP, hkP, -⟩ := className_of_methodNamed hnamed
  have hinitP : kP.init = .initialized := Cond.initialized_spec (findClass_of_methodNamed hnamed) hkP hinit
  obtain ⟨vm₁, X₁, hstep₁⟩ := X.invokestatic hexec hown hlink hnamed hmethM hstatic hkP hinitP hy (g := g) hg (argsL := argsL) (rest := rest) (hlen _ hsigM) hstack hdg
  obtain ⟨v, B, X', hpost, hsteps⟩ := hK m meth c ⟨T.setVm vm₁, locs, cells, slots⟩ { g with stack := rest } (.invokestatic index) mk argsL.toArray X₁ hg hsize hdg hW (X₁.named hnamed) (hpre vm₁ X₁.warmed)
  exact ⟨v, vm₁, B, X₁.warmed, X', hpost, fun target h => hstep₁ _ fun acts => by rw [doInvoke_state]; exact hsteps.trans h⟩
theorem vx_runSW {y : MethodName} {bytes cc : ByteArray} {maxL nL mc ms n index : Nat} {ret : Option FieldType} {hh : List (Nat × Nat × Nat × Nat)} {ws : List Cond} {rm : Room} {Pc : Array Value → State → Prop} {Qc : Array Value → State → Outcome → State → Prop} {free : Addr → Prop} {Ts : List Cond} {own : String} {As rest : List Value} {g : JFrame}
    (S : CallFix p m c cc nL s args Ts own) (hM : Met l y ws rm Pc Qc mc ms free) (cw : vx_CSW R s args own index y bytes maxL ret hh ws rm mc ms n) (hp : PreS s H Pc As)
    (hg : g.method = m) (hn : As.length = n) (hsize : g.locals.size = nL) (hstack : g.stack = As.reverse ++ rest) (hW : 2 * g.monitorRoom + (rest.map fun v => v.category).sum ≤ 8) (hdg : decode cc g.pc = .ok (.invokestatic index, 3)) (hf : cells + mc ≤ R.cells ∧ slots + ms ≤ R.slots) :
    va_Run p l e R s m args below meth c H locs cells slots mc ms g rest (Qc As.toArray) (free) := by
  obtain ⟨⟨hrc, hrs, hfr, hlo, hws, hcw⟩, hcode, hini, hy, hlen, hl, hstt⟩ := cw
  have hK : Back l R p e below s args y 3 8 (PreOf R mc ms Pc) (PostOf Qc mc ms free) := va_backW (hh := hh) (bytes := bytes) (maxL := maxL) (ret := ret) hM hp.1 hrc hrs hfr hlo hws hcw (fun a' U hW => word_at hW (Or.inl (by first | rfl | simp [Cond.onTables, Cond.keeps, Cond.steady])) hini)
  obtain ⟨hx, hb, hml, ho, -⟩ := S
  intro T hT X
  obtain ⟨v, vm₁, ⟨U', l2, c2, s2⟩, hW₁, X', ⟨g', mk, t, L, e1, e2, hq, h1, hL, h2, h3⟩, st⟩ := vx_callSW X hx (hh := hh) (bytes := bytes) (maxL := maxL) (ret := ret) ho hl hstt hini hcode hy hK hg (hsize.trans hml.symm) (argsL := As) (rest := rest) (fun sig h => hn.trans (hlen sig h)) hstack hW (by rw [hb]; exact hdg)
    (fun vm₁ hW₁ => ⟨hf.1, hf.2, hp.2 (T.setVm vm₁) hT hW₁⟩)
  dsimp only [Pt.U, Pt.locs, Pt.cells, Pt.slots] at X' e1 e2 h1 h2 h3 st
  subst h1; subst h2; subst h3
  exact ⟨v, (T.setVm vm₁).calling g' mk As.toArray, t, U', L, hT, X', hL, e1, e2, hq, st⟩
/-- not caught here, past rows that name other classes: it goes on to the caller -/
theorem vx_outP {p : Program} {l : Launch} {e : Env} {R : Room} {s : State} {m : MethodId} {args : Array Value} {below : List Frame} {meth : Method} {c : Code} {H : Heap} {locs : List Loc} {cells slots : Nat} {free : Addr → Prop} {ls : Array Slot} {rest : List Value} {Qc : Array Value → State → Outcome → State → Prop} {XC : String → State → State → Prop}
    {pc : Nat} {own E : String} {ce : Cell} {q : Addr} {mc ms : Nat} (hown : s.vm.findClass own = some m.cls) (hlocks : meth.locks = false)
    (hpass : ∀ z ∈ c.exceptionTable.toList, covers z pc = false ∨ (z.catchType ≠ 0 ∧ ∃ nm : String, (Cond.classLink own z.catchType nm).before args s = true ∧ va_Nc E nm s)) (hcell : H[q]? = some ce) (hv : ce.vm = .none) (hcl : s.vm.findClass E = some ce.cls)
    (hx : ∀ t : State, t.heap = H → s.vm.Alike t.vm → XC E s t) (hf : ∀ z ∈ locs, free z.base) (hc : cells ≤ mc) (hs : slots ≤ ms) :
    vx_W p l e R s m args below meth c H locs cells slots (vx_MQ below Qc XC args s mc ms free) (F0 m pc ls rest) q := by
  intro T hT X
  have hpl : e.platform.magicAccessors = ({} : Platform).magicAccessors := by rw [X.admits.platform]
  obtain ⟨vm', hW', X', st⟩ := X.outThrough hlocks q (g := F0 m pc ls rest) rfl rfl rfl (cell := ce) (by rw [hT]; exact hcell) (by rw [hv]; rfl)
    (by obtain ⟨k9, h9, -⟩ := Vm.findClass_spec hcl; exact ⟨k9, h9⟩) (fun z hz => by
      rcases hpass z hz with h | ⟨hz0, nm, hl1, hn1⟩
      · exact Or.inl h
      · obtain ⟨c6, hc6, hcl6⟩ := Cond.classLink_spec hown hl1 e.platform hpl
        obtain ⟨a8, b8, h1, h2, h3⟩ := hn1
        cases Option.some.inj (h1.symm.trans hcl)
        cases Option.some.inj (h2.symm.trans hc6)
        exact Or.inr ⟨hz0, _, hcl6, h3⟩)
  obtain ⟨g₀, hfr⟩ := X'.frames_eq
  have hcell9 : ((T.setVm vm').setFrames (.throwing q :: below)).heap[q]? = some ce := by
    show T.heap[q]? = some ce
    rw [hT]; exact hcell
  have hend : Ended ((T.setVm vm').setFrames (.throwing q :: below)) below (.threw q) := State.frames_setFrames _ (State.cur_lt_of_frames hfr)
  refine ⟨(T.setVm vm').setFrames (.throwing q :: below), ?_, .threw q, X'.here.running, hend, Or.inr ⟨q, rfl, E, ce, locs, hx _ hT (X'.ends _).1.alike, hcell9, hv, hcl, (X'.ends _).1, (X'.ends _).2.mono hc hs, hf⟩⟩
  rw [X.pushThrowing_eq]
  exact st
/-- a thing of a world lies in the heap -/
theorem vx_lt {D : va_G} {cl : List vw_C} {ws : va_W} {H1 : Heap} (h : va_P D cl ws H1) {k : Nat} {q : Nat × va_E} (hk : ws[k]? = some q) : q.1 < H1.size := (h k q hk).lt
end VXS
/-! ===== END ===== -/
/-! ===== BEGIN methods with a table of their own: called by a name, returning or throwing ===== -/
section VXH
/-! vx_backW, vx_callVX, vx_callSX, vx_callVW, vx_runVW, vx_runVX, vx_runSX, vx_ofWH follow the same proofs as their sisters above (Free/Laws.lean, Shelf42/LK1.lean); vx_outP calls Shelf42/NT130.lean (outThrough). -/
section
variable {l : Launch} {R : Room} {p : Program} {e : Env} {below : List Frame} {s : State} {sargs : Array Value} {y : MethodName} {len W9 : Nat}
theorem vx_backW {ws : List Cond} {rm : Room} {Pc : Array Value → State → Prop} {Qc : Array Value → State → Outcome → State → Prop} {XC : String → State → State → Prop} {mc ms : Nat} {free : Addr → Prop} {bytes : ByteArray} {maxL : Nat} {ret : Option FieldType} {hh : List (Nat × Nat × Nat × Nat)}
    (hM : vx_Met l y ws rm Pc Qc XC mc ms free) (hblind : FrameBlind Pc) (hrc : rm.cells = mc) (hrs : rm.slots = ms)
    (hframes : rm.frames + 1 ≤ R.frames) (hlocals : W9 + (maxL + 11) + rm.locals ≤ R.locals)
    (hws : ∀ w ∈ ws, ∀ a' U, s.WarmedH U.vm → w.before a' U = true) (hcode : Cond.codeWith y bytes maxL ret hh ∈ ws) (hinit : ∀ a' U, s.WarmedH U.vm → (Cond.initialized y.cls).before a' U = true) :
    vx_Back l R p e below s sargs y len W9 (PreOf R mc ms Pc) (PostOf Qc mc ms free) (vx_Post XC mc ms free) := by
  intro m meth c A g ig mk a X hg hsize hdg hW hn hp
  have h1 : (headSpec ws rm).pre.before a A.U = true := atoms_intro fun w hw => hws w hw _ _ X.warmed
  have h2 : (Cond.codeWith y bytes maxL ret hh).before a A.U = true := hws _ hcode _ _ X.warmed
  have h3 : (Cond.initialized y.cls).before a A.U = true := hinit _ _ X.warmed
  have h4 : A.cells + (headSpec ws rm).room.cells ≤ R.cells := by rw [show (headSpec ws rm).room.cells = mc from hrc]; exact hp.1
  have h5 : A.slots + (headSpec ws rm).room.slots ≤ R.slots := by rw [show (headSpec ws rm).room.slots = ms from hrs]; exact hp.2.1
  have hPc : Pc a (A.U.calling g mk a) := hblind _ _ _ _ hp.2.2
  obtain ⟨U, Ls, c0, s0⟩ := A
  dsimp only [Pt.U, Pt.locs, Pt.cells, Pt.slots] at h1 h2 h3 h4 h5 X hn hPc ⊢
  obtain ⟨m9, methY, cY, hn9, hmY, hcY, -, hlY, -⟩ := Cond.codeWith_spec h2
  cases Option.some.inj (hn9.symm.trans hn)
  obtain ⟨kY, hkY, -⟩ := className_of_methodNamed hn
  have hinitY : kY.init = .initialized := Cond.initialized_spec (findClass_of_methodNamed hn) hkY h3
  have h : At U g.method c below := by rw [hg]; exact X.here
  have hlocals9 : W9 + (maxL + 11) + (headSpec ws rm).room.locals ≤ R.locals := hlocals
  have happ : (headSpec ws rm).appliesLoose y e.platform (U.calling g mk a) = true :=
    Spec.appliesLoose_calling (g := g) h hdg hn hkY hinitY
      (X.room_calling (g := g) (R' := (headSpec ws rm).room) hsize hmY hcY hframes (by rw [hlY]; omega) h4 h5) h1
  obtain ⟨mid, hmid⟩ := h.above
  have hfr : (U.setTop g).frames = (.java g :: mid) ++ below := by rw [State.frames_setTop' g h.top, hmid]; rfl
  obtain ⟨o, s₂, hsteps, -, hend, hq⟩ := Steps.callFree hM p X.admits X.cas X.clock (acts := []) hfr happ hPc trivial
  have hq' : vx_Q Qc XC mc ms free a (U.calling g mk a) o s₂ := hq
  rw [State.frames_setTop' g h.top] at hend
  obtain ⟨g₀, hg0⟩ := Option.isSome_iff_exists.mp h.top
  obtain ⟨r, hr⟩ := State.topJava?_eq_some.mp hg0
  have hr' : (({ U with heap := s₂.heap, slotsUsed := s₂.slotsUsed } : State).setVm s₂.vm).frames = .java g₀ :: r := hr
  rcases hq' with ⟨hqc, L, hfe, hL⟩ | ⟨q, rfl, E, ce, L, hx, hce, hcv, hcl, hW₂, hsm, hL⟩
  · obtain ⟨⟨v, rfl⟩, hW₂, e2, q2, q3, q4, q5, q6⟩ := id hfe
    have e3 : s₂ = ({ (U.calling g mk a).setFrames s₂.frames with heap := s₂.heap, slotsUsed := s₂.slotsUsed } : State).setVm s₂.vm := by
      have : s₂ = ({ s₂ with vm := (U.calling g mk a).vm } : State).setVm s₂.vm := rfl
      rw [e2] at this
      exact this
    obtain ⟨c₂, i₂, len₂, hc₂, hd₂, hf₂⟩ := hend
    have hW' : U.WarmedH s₂.vm := hW₂
    have hcc : c₂ = c := by
      have h1 : s₂.code? g.method = U.code? g.method := by
        rw [State.code?_eq, State.code?_eq, hW'.alike.method?]
      exact Option.some.inj (hc₂.symm.trans (h1.trans h.code))
    subst hcc
    have hlen : len₂ = len := by rw [hdg] at hd₂; cases hd₂; rfl
    subst hlen
    have hs₂ : s₂ = (({ U with heap := s₂.heap, slotsUsed := s₂.slotsUsed } : State).setVm s₂.vm).setTop { g with pc := g.pc + len₂, stack := v.toList ++ g.stack } := by
      refine e3.trans ?_
      rw [hf₂, State.calling_eq h.top, State.setFrames_setFrames, State.setTop_of_frames _ hr', hr]
      rfl
    have hsame : U.sameButNew ({ U with heap := s₂.heap, slotsUsed := s₂.slotsUsed } : State) L mc ms := by
      refine ⟨?_, q2, q3, q4, q5, q6⟩
      obtain ⟨t, ht, -⟩ := State.frames_cons hr
      show ({ U with heap := s₂.heap, slotsUsed := s₂.slotsUsed } : State) = { U.setFrames U.frames with heap := s₂.heap, slotsUsed := s₂.slotsUsed }
      rw [State.setFrames_self ht]
    subst hg
    refine Or.inl ⟨v, ⟨(({ U with heap := s₂.heap, slotsUsed := s₂.slotsUsed } : State).setVm s₂.vm), Ls ++ L, c0 + mc, s0 + ms⟩,
      ⟨X.admits, X.cas, X.clock, X.frames, X.room, X.hears, X.method, X.code, (X.here.setHeapUsed s₂.heap s₂.slotsUsed).setVm hW'.alike, X.tail, State.WarmedH.trans X.warmed hW', X.limits, X.bytes, X.same.trans (hsame.setVm s.vm)⟩,
      ⟨g, mk, s₂, L, rfl, rfl, hqc, rfl, hL, rfl, rfl⟩, ?_⟩
    show Steps p.tables e below _ ((({ U with heap := s₂.heap, slotsUsed := s₂.slotsUsed } : State).setVm s₂.vm).setTop { g with pc := g.pc + len₂, stack := v.toList ++ g.stack })
    rw [← hs₂]
    exact hsteps
  · obtain ⟨e2, q2, q3, q4, q5, q6⟩ := id hsm
    have e3 : s₂ = ({ (U.calling g mk a).setFrames s₂.frames with heap := s₂.heap, slotsUsed := s₂.slotsUsed } : State).setVm s₂.vm := by
      have : s₂ = ({ s₂ with vm := (U.calling g mk a).vm } : State).setVm s₂.vm := rfl
      rw [e2] at this
      exact this
    have hf₂ : s₂.frames = .throwing q :: .java g :: U.frames.tail := hend
    have hW' : U.WarmedH s₂.vm := hW₂
    have hs₂ : s₂ = ((({ U with heap := s₂.heap, slotsUsed := s₂.slotsUsed } : State).setVm s₂.vm).setTop g).pushFrame (.throwing q) := by
      refine e3.trans ?_
      rw [hf₂, State.calling_eq h.top, State.setFrames_setFrames, State.pushFrame, State.frames_setTop _ hr', State.setTop_of_frames _ hr', State.setFrames_setFrames, hr]
      rfl
    have hsame : U.sameButNew ({ U with heap := s₂.heap, slotsUsed := s₂.slotsUsed } : State) L mc ms := by
      refine ⟨?_, q2, q3, q4, q5, q6⟩
      obtain ⟨t, ht, -⟩ := State.frames_cons hr
      show ({ U with heap := s₂.heap, slotsUsed := s₂.slotsUsed } : State) = { U.setFrames U.frames with heap := s₂.heap, slotsUsed := s₂.slotsUsed }
      rw [State.setFrames_self ht]
    subst hg
    refine Or.inr ⟨q, ⟨(({ U with heap := s₂.heap, slotsUsed := s₂.slotsUsed } : State).setVm s₂.vm), Ls ++ L, c0 + mc, s0 + ms⟩,
      ⟨X.admits, X.cas, X.clock, X.frames, X.room, X.hears, X.method, X.code, (X.here.setHeapUsed s₂.heap s₂.slotsUsed).setVm hW'.alike, X.tail, State.WarmedH.trans X.warmed hW', X.limits, X.bytes, X.same.trans (hsame.setVm s.vm)⟩,
      ⟨g, mk, s₂, L, E, ce, rfl, rfl, hx, hce, hcv, hcl, rfl, hL, rfl, rfl⟩, ?_⟩
    show Steps p.tables e below _ (((({ U with heap := s₂.heap, slotsUsed := s₂.slotsUsed } : State).setVm s₂.vm).setTop g).pushFrame (.throwing q))
    rw [← hs₂]
    exact hsteps
end
variable {p : Program} {l : Launch} {e : Env} {R : Room} {s : State} {m : MethodId} {args : Array Value} {below : List Frame} {meth : Method} {c : Code} {T : State} {H : Heap} {locs : List Loc} {cells slots : Nat}
theorem vx_callVX (X : Stand p l e R s m args below meth c T locs cells slots) (hexec : p.tables.exec = Jvm.exec) {own C : String} {index : Nat} {y : MethodName} {bytes : ByteArray} {maxL : Nat} {ret : Option FieldType} {hh : List (Nat × Nat × Nat × Nat)}
    (hown : s.vm.findClass own = some m.cls) (hlink : (Cond.methodLink own index y).before args s = true) (hinst : (Cond.instanceMethod y).before args s = true) (hsel : (Cond.selects C y y).before args s = true)
    (hcode : (Cond.codeWith y bytes maxL ret hh).before args s = true) (hy : y.cls ≠ "java/lang/invoke/MethodHandle" ∧ y.cls ≠ "java/lang/invoke/VarHandle")
    {W9 : Nat} {Pre : Pt → Array Value → Prop} {Post : Pt → Array Value → Option Value → Pt → Prop} {PostX : Pt → Array Value → Addr → Pt → Prop} (hK : vx_Back l R p e below s args y 3 W9 Pre Post PostX)
    {b : Addr} {cellB : Cell} (hcell : T.heap[b]? = some cellB) (hobj : cellB.vm.isStatics = false) (hcls : s.vm.findClass C = some cellB.cls)
    {g : JFrame} (hg : g.method = m) (hsize : g.locals.size = c.maxLocals) {argsL rest : List Value} (hlen : ∀ sig, parseMethodDescriptor y.desc = some sig → argsL.length = sig.parameters.length)
    (hstack : g.stack = argsL.reverse ++ .ref b :: rest) (hW : 2 * g.monitorRoom + (rest.map fun v => v.category).sum ≤ W9) (hdg : decode c.code g.pc = .ok (.invokevirtual index, 3))
    (hpre : ∀ vm₁, s.WarmedH vm₁ → Pre ⟨T.setVm vm₁, locs, cells, slots⟩ (Value.ref b :: argsL).toArray) :
    (∃ (v : Option Value) (vm₁ : Vm) (B : Pt), s.WarmedH vm₁ ∧ Stand p l e R s m args below meth c B.U B.locs B.cells B.slots ∧ Post ⟨T.setVm vm₁, locs, cells, slots⟩ (Value.ref b :: argsL).toArray v B ∧
      ∀ target, Steps p.tables e below (B.U.setTop { g with pc := g.pc + 3, stack := v.toList ++ rest }) target → Steps p.tables e below (T.setTop g) target) ∨
    (∃ (q : Addr) (vm₁ : Vm) (B : Pt), s.WarmedH vm₁ ∧ Stand p l e R s m args below meth c B.U B.locs B.cells B.slots ∧ PostX ⟨T.setVm vm₁, locs, cells, slots⟩ (Value.ref b :: argsL).toArray q B ∧
      Steps p.tables e below (T.setTop g) ((B.U.setTop { g with stack := rest }).pushFrame (.throwing q))) := by
  obtain ⟨mk, methM, hnamed, hmethM, hstM, habM⟩ := Cond.instanceMethod_spec hinst
  obtain ⟨m8, methM', cM, hn8, hmethM', -, -, -, -, -, -, hsigM⟩ := Cond.codeWith_spec hcode
  cases Option.some.inj (hn8.symm.trans hnamed)
  cases hmethM.symm.trans hmethM'
  obtain ⟨c2, r2, m2, q1, q2, q3, q4, kP, hkP, hkPi⟩ := Cond.selects_spec hsel
  cases hcls.symm.trans q1
  cases (State.methodFound?_of_named hnamed hy).symm.trans q2
  cases hnamed.symm.trans q3
  have hselP : selectMethod e.platform s.vm cellB.cls mk = .method mk := by rw [Launch.admits_selectMethod X.admits]; exact q4
  obtain ⟨vm₁, X₁, hstep₁⟩ := X.invokevirtual hexec hown hlink hnamed hmethM hstM hkP hkPi hy (a := b) (cell := cellB) hcell
    (fun z h => by rw [h] at hobj; cases hobj) hselP hmethM habM hkP hkPi (g := g) hg (argsL := argsL) (rest := rest) (hlen _ hsigM) hstack hdg
  rcases hK m meth c ⟨T.setVm vm₁, locs, cells, slots⟩ { g with stack := rest } (.invokevirtual index) mk (Value.ref b :: argsL).toArray X₁ hg hsize hdg hW (X₁.named hnamed) (hpre vm₁ X₁.warmed) with ⟨v, B, X', hpost, hsteps⟩ | ⟨q, B, X', hpost, hsteps⟩
  · exact Or.inl ⟨v, vm₁, B, X₁.warmed, X', hpost, fun target h => hstep₁ _ fun acts => by rw [doInvoke_state]; exact hsteps.trans h⟩
  · exact Or.inr ⟨q, vm₁, B, X₁.warmed, X', hpost, hstep₁ _ fun acts => by rw [doInvoke_state]; exact hsteps⟩
theorem vx_callSX (X : Stand p l e R s m args below meth c T locs cells slots) (hexec : p.tables.exec = Jvm.exec) {own : String} {index : Nat} {y : MethodName} {bytes : ByteArray} {maxL : Nat} {ret : Option FieldType} {hh : List (Nat × Nat × Nat × Nat)}
    (hown : s.vm.findClass own = some m.cls) (hlink : (Cond.methodLink own index y).before args s = true) (hstat : (Cond.static y).before args s = true) (hinit : (Cond.initialized y.cls).before args s = true)
    (hcode : (Cond.codeWith y bytes maxL ret hh).before args s = true) (hy : y.cls ≠ "java/lang/invoke/MethodHandle" ∧ y.cls ≠ "java/lang/invoke/VarHandle")
    {W9 : Nat} {Pre : Pt → Array Value → Prop} {Post : Pt → Array Value → Option Value → Pt → Prop} {PostX : Pt → Array Value → Addr → Pt → Prop} (hK : vx_Back l R p e below s args y 3 W9 Pre Post PostX)
    {g : JFrame} (hg : g.method = m) (hsize : g.locals.size = c.maxLocals) {argsL rest : List Value} (hlen : ∀ sig, parseMethodDescriptor y.desc = some sig → argsL.length = sig.parameters.length)
    (hstack : g.stack = argsL.reverse ++ rest) (hW : 2 * g.monitorRoom + (rest.map fun v => v.category).sum ≤ W9) (hdg : decode c.code g.pc = .ok (.invokestatic index, 3))
    (hpre : ∀ vm₁, s.WarmedH vm₁ → Pre ⟨T.setVm vm₁, locs, cells, slots⟩ argsL.toArray) :
    (∃ (v : Option Value) (vm₁ : Vm) (B : Pt), s.WarmedH vm₁ ∧ Stand p l e R s m args below meth c B.U B.locs B.cells B.slots ∧ Post ⟨T.setVm vm₁, locs, cells, slots⟩ argsL.toArray v B ∧
      ∀ target, Steps p.tables e below (B.U.setTop { g with pc := g.pc + 3, stack := v.toList ++ rest }) target → Steps p.tables e below (T.setTop g) target) ∨
    (∃ (q : Addr) (vm₁ : Vm) (B : Pt), s.WarmedH vm₁ ∧ Stand p l e R s m args below meth c B.U B.locs B.cells B.slots ∧ PostX ⟨T.setVm vm₁, locs, cells, slots⟩ argsL.toArray q B ∧
      Steps p.tables e below (T.setTop g) ((B.U.setTop { g with stack := rest }).pushFrame (.throwing q))) := by
  obtain ⟨mk, methM, cM, hnamed, hmethM, -, -, -, -, -, -, hsigM⟩ := Cond.codeWith_spec hcode
  have hstatic : methM.isStatic = true := Cond.static_spec hnamed hmethM hstat
  obtain ⟨kP, hkP, -⟩ := className_of_methodNamed hnamed
  have hinitP : kP.init = .initialized := Cond.initialized_spec (findClass_of_methodNamed hnamed) hkP hinit
  obtain ⟨vm₁, X₁, hstep₁⟩ := X.invokestatic hexec hown hlink hnamed hmethM hstatic hkP hinitP hy (g := g) hg (argsL := argsL) (rest := rest) (hlen _ hsigM) hstack hdg
  rcases hK m meth c ⟨T.setVm vm₁, locs, cells, slots⟩ { g with stack := rest } (.invokestatic index) mk argsL.toArray X₁ hg hsize hdg hW (X₁.named hnamed) (hpre vm₁ X₁.warmed) with ⟨v, B, X', hpost, hsteps⟩ | ⟨q, B, X', hpost, hsteps⟩
  · exact Or.inl ⟨v, vm₁, B, X₁.warmed, X', hpost, fun target h => hstep₁ _ fun acts => by rw [doInvoke_state]; exact hsteps.trans h⟩
  · exact Or.inr ⟨q, vm₁, B, X₁.warmed, X', hpost, hstep₁ _ fun acts => by rw [doInvoke_state]; exact hsteps⟩
theorem vx_callVW (X : Stand p l e R s m args below meth c T locs cells slots) (hexec : p.tables.exec = Jvm.exec) {own C : String} {index : Nat} {y : MethodName} {bytes : ByteArray} {maxL : Nat} {ret : Option FieldType} {hh : List (Nat × Nat × Nat × Nat)}
    (hown : s.vm.findClass own = some m.cls) (hlink : (Cond.methodLink own index y).before args s = true) (hinst : (Cond.instanceMethod y).before args s = true) (hsel : (Cond.selects C y y).before args s = true)
    (hcode : (Cond.codeWith y bytes maxL ret hh).before args s = true) (hy : y.cls ≠ "java/lang/invoke/MethodHandle" ∧ y.cls ≠ "java/lang/invoke/VarHandle")
    {W9 : Nat} {Pre : Pt → Array Value → Prop} {Post : Pt → Array Value → Option Value → Pt → Prop} (hK : Back l R p e below s args y 3 W9 Pre Post)
    {b : Addr} {cellB : Cell} (hcell : T.heap[b]? = some cellB) (hobj : cellB.vm.isStatics = false) (hcls : s.vm.findClass C = some cellB.cls)
    {g : JFrame} (hg : g.method = m) (hsize : g.locals.size = c.maxLocals) {argsL rest : List Value} (hlen : ∀ sig, parseMethodDescriptor y.desc = some sig → argsL.length = sig.parameters.length)
    (hstack : g.stack = argsL.reverse ++ .ref b :: rest) (hW : 2 * g.monitorRoom + (rest.map fun v => v.category).sum ≤ W9) (hdg : decode c.code g.pc = .ok (.invokevirtual index, 3))
    (hpre : ∀ vm₁, s.WarmedH vm₁ → Pre ⟨T.setVm vm₁, locs, cells, slots⟩ (Value.ref b :: argsL).toArray) :
    ∃ (v : Option Value) (vm₁ : Vm) (B : Pt), s.WarmedH vm₁ ∧ Stand p l e R s m args below meth c B.U B.locs B.cells B.slots ∧ Post ⟨T.setVm vm₁, locs, cells, slots⟩ (Value.ref b :: argsL).toArray v B ∧
      ∀ target, Steps p.tables e below (B.U.setTop { g with pc := g.pc + 3, stack := v.toList ++ rest }) target → Steps p.tables e below (T.setTop g) target := by
  obtain ⟨mk, methM, hnamed, hmethM, hstM, habM⟩ := Cond.instanceMethod_spec hinst
  obtain ⟨m8, methM', cM, hn8, hmethM', -, -, -, -, -, -, hsigM⟩ := Cond.codeWith_spec hcode
  cases Option.some.inj (hn8.symm.trans hnamed)
  cases hmethM.symm.trans hmethM'
  obtain ⟨c2, r2, m2, q1, q2, q3, q4, kP, hkP, hkPi⟩ := Cond.selects_spec hsel
  cases hcls.symm.trans q1
  cases (State.methodFound?_of_named hnamed hy).symm.trans q2
  cases hnamed.symm.trans q3
  have hselP : selectMethod e.platform s.vm cellB.cls mk = .method mk := by rw [Launch.admits_selectMethod X.admits]; exact q4
  obtain ⟨vm₁, X₁, hstep₁⟩ := X.invokevirtual hexec hown hlink hnamed hmethM hstM hkP hkPi hy (a := b) (cell := cellB) hcell
    (fun z h => by rw [h] at hobj; cases hobj) hselP hmethM habM hkP hkPi (g := g) hg (argsL := argsL) (rest := rest) (hlen _ hsigM) hstack hdg
  obtain ⟨v, B, X', hpost, hsteps⟩ := hK m meth c ⟨T.setVm vm₁, locs, cells, slots⟩ { g with stack := rest } (.invokevirtual index) mk (Value.ref b :: argsL).toArray X₁ hg hsize hdg hW (X₁.named hnamed) (hpre vm₁ X₁.warmed)
  exact ⟨v, vm₁, B, X₁.warmed, X', hpost, fun target h => hstep₁ _ fun acts => by rw [doInvoke_state]; exact hsteps.trans h⟩
abbrev vx_CVW (R : Room) (s : State) (args : Array Value) (own C : String) (index : Nat) (y : MethodName) (bytes : ByteArray) (maxL : Nat) (ret : Option FieldType) (hh : List (Nat × Nat × Nat × Nat)) (ws : List Cond) (rm : Room) (mc ms n : Nat) : Prop :=
  (rm.cells = mc ∧ rm.slots = ms ∧ rm.frames + 1 ≤ R.frames ∧ 8 + (maxL + 11) + rm.locals ≤ R.locals ∧ (∀ w ∈ ws, ∀ (a' : Array Value) (U : State), s.WarmedH U.vm → w.before a' U = true) ∧ Cond.codeWith y bytes maxL ret hh ∈ ws) ∧
  (Cond.codeWith y bytes maxL ret hh).before args s = true ∧ (Cond.initialized y.cls).before args s = true ∧ (y.cls ≠ "java/lang/invoke/MethodHandle" ∧ y.cls ≠ "java/lang/invoke/VarHandle") ∧
  (∀ sig, parseMethodDescriptor y.desc = some sig → n = sig.parameters.length) ∧ (Cond.methodLink own index y).before args s = true ∧ (Cond.instanceMethod y).before args s = true ∧ (Cond.selects C y y).before args s = true
theorem vx_cwVW {own C : String} {index maxL mc ms : Nat} {y : MethodName} {bytes : ByteArray} {ret : Option FieldType} {hh : List (Nat × Nat × Nat × Nat)} {Ts ws ws' : List Cond} {rm : Room} (n : Nat) (ht : ∀ w ∈ Ts, w.before args s = true) (hT : GoodIn Ts (wsV own index C y ws)) (hw : ws = Cond.codeWith y bytes maxL ret hh :: ws') (hrc : rm.cells = mc) (hrs : rm.slots = ms)
    (hd : y.cls = C ∧ y.cls ≠ "java/lang/invoke/MethodHandle" ∧ y.cls ≠ "java/lang/invoke/VarHandle" ∧ (parseMethodDescriptor y.desc).map (fun d => d.parameters.length) = some n) (hR : rm.frames + 1 ≤ R.frames ∧ 8 + (maxL + 11) + rm.locals ≤ R.locals) :
    vx_CVW R s args own C index y bytes maxL ret hh ws rm mc ms n := by
  obtain ⟨hC, hd⟩ := hd
  subst hC
  have ok : ∀ w ∈ wsV own index y.cls y ws, w.before args s = true := fun w h => ht w (hT w h).1
  have hG : GoodIn Ts ws := fun w h => hT w (by unfold wsV; exact List.mem_append_right _ h)
  have hc : Cond.codeWith y bytes maxL ret hh ∈ ws := by rw [hw]; exact List.mem_cons_self
  refine ⟨⟨hrc, hrs, hR.1, hR.2, pay_in ht hG, hc⟩, ht _ (hG _ hc).1, ok _ (by simp [wsV]), ⟨hd.1, hd.2.1⟩, fun sig h => ?_, ok _ (by simp [wsV]), ok _ (by simp [wsV]), ok _ (by simp [wsV])⟩
  have h2 := hd.2.2
  rw [h] at h2
  exact (Option.some.inj h2).symm
theorem vx_runVW {y : MethodName} {bytes cc : ByteArray} {maxL nL mc ms n index : Nat} {ret : Option FieldType} {hh : List (Nat × Nat × Nat × Nat)} {ws : List Cond} {rm : Room} {Pc : Array Value → State → Prop} {Qc : Array Value → State → Outcome → State → Prop} {free : Addr → Prop} {Ts : List Cond} {own C : String} {b : Addr} {As rest : List Value} {g : JFrame}
    (S : CallFix p m c cc nL s args Ts own) (hM : Met l y ws rm Pc Qc mc ms free) (cw : vx_CVW R s args own C index y bytes maxL ret hh ws rm mc ms n) (hp : PreV s H C b Pc As)
    (hg : g.method = m) (hn : As.length = n) (hsize : g.locals.size = nL) (hstack : g.stack = As.reverse ++ .ref b :: rest) (hW : 2 * g.monitorRoom + (rest.map fun v => v.category).sum ≤ 8) (hdg : decode cc g.pc = .ok (.invokevirtual index, 3)) (hf : cells + mc ≤ R.cells ∧ slots + ms ≤ R.slots) :
    va_Run p l e R s m args below meth c H locs cells slots mc ms g rest (Qc (Value.ref b :: As).toArray) free := by
  obtain ⟨⟨hrc, hrs, hfr, hlo, hws, hcw⟩, hcode, hini, hy, hlen, hl, hin, hse⟩ := cw
  have hK : Back l R p e below s args y 3 8 (PreOf R mc ms Pc) (PostOf Qc mc ms free) := va_backW (hh := hh) (bytes := bytes) (maxL := maxL) (ret := ret) hM hp.1 hrc hrs hfr hlo hws hcw (fun a' U hW => word_at hW (Or.inl (by first | rfl | simp [Cond.onTables, Cond.keeps, Cond.steady])) hini)
  obtain ⟨hx, hb, hml, ho, -⟩ := S
  obtain ⟨-, ⟨cellB, hcB, hoB, hclB⟩, hPc⟩ := hp
  intro T hT X
  obtain ⟨v, vm₁, ⟨U', l2, c2, s2⟩, hW₁, X', ⟨g', mk, t, L, e1, e2, hq, h1, hL, h2, h3⟩, st⟩ := vx_callVW X hx (C := C) (hh := hh) (bytes := bytes) (maxL := maxL) (ret := ret) ho hl hin hse hcode hy hK (by rw [hT]; exact hcB) hoB hclB hg (hsize.trans hml.symm) (argsL := As) (rest := rest) (fun sig h => hn.trans (hlen sig h)) hstack hW (by rw [hb]; exact hdg)
    (fun vm₁ hW₁ => ⟨hf.1, hf.2, hPc (T.setVm vm₁) hT hW₁⟩)
  dsimp only [Pt.U, Pt.locs, Pt.cells, Pt.slots] at X' e1 e2 h1 h2 h3 st
  subst h1; subst h2; subst h3
  exact ⟨v, (T.setVm vm₁).calling g' mk (Value.ref b :: As).toArray, t, U', L, hT, X', hL, e1, e2, hq, st⟩
section
variable {y : MethodName} {bytes cc : ByteArray} {maxL nL mc ms n index : Nat} {ret : Option FieldType} {ws : List Cond} {rm : Room} {Pc : Array Value → State → Prop} {Qc : Array Value → State → Outcome → State → Prop} {XC : String → State → State → Prop} {free : Addr → Prop} {Ts : List Cond} {own C : String} {b : Addr} {As rest : List Value} {g : JFrame}
theorem vx_runVX {hh : List (Nat × Nat × Nat × Nat)} (S : CallFix p m c cc nL s args Ts own) (hM : vx_Met l y ws rm Pc Qc XC mc ms free) (cw : vx_CVW R s args own C index y bytes maxL ret hh ws rm mc ms n) (hp : PreV s H C b Pc As)
    (hg : g.method = m) (hn : As.length = n) (hsize : g.locals.size = nL) (hstack : g.stack = As.reverse ++ .ref b :: rest) (hW : 2 * g.monitorRoom + (rest.map fun v => v.category).sum ≤ 8) (hdg : decode cc g.pc = .ok (.invokevirtual index, 3)) (hf : cells + mc ≤ R.cells ∧ slots + ms ≤ R.slots) :
    vx_Run p l e R s m args below meth c H locs cells slots mc ms g rest (Qc (Value.ref b :: As).toArray) XC free := by
  obtain ⟨⟨hrc, hrs, hfr, hlo, hws, hcw⟩, hcode, hini, hy, hlen, hl, hin, hse⟩ := cw
  have hK : vx_Back l R p e below s args y 3 8 (PreOf R mc ms Pc) (PostOf Qc mc ms free) (vx_Post XC mc ms free) := vx_backW (hh := hh) (bytes := bytes) (maxL := maxL) (ret := ret) hM hp.1 hrc hrs hfr hlo hws hcw (fun a' U hW => word_at hW (Or.inl (by first | rfl | simp [Cond.onTables, Cond.keeps, Cond.steady])) hini)
  obtain ⟨hx, hb, hml, ho, -⟩ := S
  obtain ⟨-, ⟨cellB, hcB, hoB, hclB⟩, hPc⟩ := hp
  intro T hT X
  rcases vx_callVX X hx (C := C) (hh := hh) (bytes := bytes) (maxL := maxL) (ret := ret) ho hl hin hse hcode hy hK (by rw [hT]; exact hcB) hoB hclB hg (hsize.trans hml.symm) (argsL := As) (rest := rest) (fun sig h => hn.trans (hlen sig h)) hstack hW (by rw [hb]; exact hdg)
    (fun vm₁ hW₁ => ⟨hf.1, hf.2, hPc (T.setVm vm₁) hT hW₁⟩) with ⟨v, vm₁, ⟨U', l2, c2, s2⟩, hW₁, X', ⟨g', mk, t, L, e1, e2, hq, h1, hL, h2, h3⟩, st⟩ | ⟨q, vm₁, ⟨U', l2, c2, s2⟩, hW₁, X', ⟨g', mk, t, L, E, ce, e1, e2, hq, hce, hcv, hcl, h1, hL, h2, h3⟩, st⟩
  · dsimp only [Pt.U, Pt.locs, Pt.cells, Pt.slots] at X' e1 e2 h1 h2 h3 st
    subst h1; subst h2; subst h3
    exact Or.inl ⟨v, (T.setVm vm₁).calling g' mk (Value.ref b :: As).toArray, t, U', L, hT, X', hL, e1, e2, hq, st⟩
  · dsimp only [Pt.U, Pt.locs, Pt.cells, Pt.slots] at X' e1 e2 h1 h2 h3 st hcl
    subst h1; subst h2; subst h3
    exact Or.inr ⟨q, (T.setVm vm₁).calling g' mk (Value.ref b :: As).toArray, t, U', L, E, ce, hT, X', hL, e1, e2, hq, hce, hcv, vx_cls hW₁ hcl, st⟩
theorem vx_runSX {hh : List (Nat × Nat × Nat × Nat)} (S : CallFix p m c cc nL s args Ts own) (hM : vx_Met l y ws rm Pc Qc XC mc ms free) (cw : vx_CSW R s args own index y bytes maxL ret hh ws rm mc ms n) (hp : PreS s H Pc As)
    (hg : g.method = m) (hn : As.length = n) (hsize : g.locals.size = nL) (hstack : g.stack = As.reverse ++ rest) (hW : 2 * g.monitorRoom + (rest.map fun v => v.category).sum ≤ 8) (hdg : decode cc g.pc = .ok (.invokestatic index, 3)) (hf : cells + mc ≤ R.cells ∧ slots + ms ≤ R.slots) :
    vx_Run p l e R s m args below meth c H locs cells slots mc ms g rest (Qc As.toArray) XC free := by
  obtain ⟨⟨hrc, hrs, hfr, hlo, hws, hcw⟩, hcode, hini, hy, hlen, hl, hstt⟩ := cw
  have hK : vx_Back l R p e below s args y 3 8 (PreOf R mc ms Pc) (PostOf Qc mc ms free) (vx_Post XC mc ms free) := vx_backW (hh := hh) (bytes := bytes) (maxL := maxL) (ret := ret) hM hp.1 hrc hrs hfr hlo hws hcw (fun a' U hW => word_at hW (Or.inl (by first | rfl | simp [Cond.onTables, Cond.keeps, Cond.steady])) hini)
  obtain ⟨hx, hb, hml, ho, -⟩ := S
  intro T hT X
  rcases vx_callSX X hx (hh := hh) (bytes := bytes) (maxL := maxL) (ret := ret) ho hl hstt hini hcode hy hK hg (hsize.trans hml.symm) (argsL := As) (rest := rest) (fun sig h => hn.trans (hlen sig h)) hstack hW (by rw [hb]; exact hdg)
    (fun vm₁ hW₁ => ⟨hf.1, hf.2, hp.2 (T.setVm vm₁) hT hW₁⟩) with ⟨v, vm₁, ⟨U', l2, c2, s2⟩, hW₁, X', ⟨g', mk, t, L, e1, e2, hq, h1, hL, h2, h3⟩, st⟩ | ⟨q, vm₁, ⟨U', l2, c2, s2⟩, hW₁, X', ⟨g', mk, t, L, E, ce, e1, e2, hq, hce, hcv, hcl, h1, hL, h2, h3⟩, st⟩
  · dsimp only [Pt.U, Pt.locs, Pt.cells, Pt.slots] at X' e1 e2 h1 h2 h3 st
    subst h1; subst h2; subst h3
    exact Or.inl ⟨v, (T.setVm vm₁).calling g' mk As.toArray, t, U', L, hT, X', hL, e1, e2, hq, st⟩
  · dsimp only [Pt.U, Pt.locs, Pt.cells, Pt.slots] at X' e1 e2 h1 h2 h3 st hcl
    subst h1; subst h2; subst h3
    exact Or.inr ⟨q, (T.setVm vm₁).calling g' mk As.toArray, t, U', L, E, ce, hT, X', hL, e1, e2, hq, hce, hcv, vx_cls hW₁ hcl, st⟩
end
end VXH
theorem vx_ofWH {l : Launch} {y : MethodName} {ws ws' : List Cond} {rm : Room} {Pc : Array Value → State → Prop} {Qc : Array Value → State → Outcome → State → Prop} {XC : String → State → State → Prop} {mc ms : Nat} {free : Addr → Prop} {cc : ByteArray} {maxL : Nat} {ret : Option FieldType} {hh : List (Nat × Nat × Nat × Nat)}
    (hy : plainName y.cls = true) (hw : ws = Cond.codeWith y cc maxL ret hh :: ws')
    (body : ∀ p e s m args below meth c s₁, BodyLoose p l y (headSpec ws rm) cc maxL ret e s m args below meth c s₁ → c.maxLocals = maxL → Pc args s →
      W p l e (headSpec ws rm).room s m args below meth c s.heap [] 0 0 (vx_MQ below Qc XC args s mc ms free) (entryFrame m args maxL)) : vx_Met l y ws rm Pc Qc XC mc ms free := by
  refine MetFree.of_bodyS (code := cc) (maxLocals := maxL) (ret := ret) hy ?_ ?_
  · intro args s m h hn
    obtain ⟨m9, meth, c, hn9, h1, h2, h3, h4, -, h5, h6, -⟩ := Cond.codeWith_spec (atoms_spec (ws := ws) h _ (by rw [hw]; exact List.mem_cons_self))
    cases hn.symm.trans hn9
    exact ⟨meth, c, h1, h2, h3, h4, h5, h6⟩
  · intro p e s m args below meth c s₁ B hml hP _
    have hh0 : s₁.heap = s.heap := by rw [B.state]; rfl
    obtain ⟨t, a1, o, b1, b2, b3⟩ := body p e s m args below meth c s₁ B hml hP s₁ hh0 (Stand.of_body B)
    exact ⟨t, o, a1, b1, b2, b3⟩
/-! ===== END ===== -/
end
section
def RX0 : String := "LineLives$History"
def TX0 : u_T := fun k => match k with
  | 0 => ("LineLives$History", "states", "[I", true)
  | _ => ("LineLives$History", "size", "I", false)
def tyX0 : Nat → FieldType := fun k => match k with
  | 0 => .array .int
  | _ => .int
abbrev wsX00 : List Cond := u_ws RX0 TX0 2
theorem nmX0 : ∀ a, a < 2 → ∀ b, b < 2 → a ≠ b → (TX0 a).2.1 ≠ (TX0 b).2.1 := by decide +kernel
theorem tyX0_ok : ∀ k, k < 2 → parseFieldDescriptor (TX0 k).2.2.1 = some (tyX0 k) := by decide +kernel
abbrev cX0_init : ByteArray := prog_2_method_1_code
def yX0_init : MethodName := ⟨RX0, "<init>", "()V"⟩
abbrev cX0_size : ByteArray := prog_2_method_2_code
def yX0_size : MethodName := ⟨RX0, "size", "()I"⟩
abbrev cX0_save : ByteArray := prog_2_method_3_code
def yX0_save : MethodName := ⟨RX0, "save", "(LLineLives$Lines;)V"⟩
abbrev cX0_restore : ByteArray := prog_2_method_4_code
def yX0_restore : MethodName := ⟨RX0, "restore", "(LLineLives$Lines;)V"⟩
def RX1 : String := "LineLives$Lines"
def TX1 : u_T := fun k => match k with
  | 0 => ("LineLives$Lines", "table", "[I", true)
  | 1 => ("LineLives$Lines", "size", "I", false)
  | 2 => ("LineLives$Lines", "moment", "I", false)
  | _ => ("LineLives$Lines", "version", "I", false)
def tyX1 : Nat → FieldType := fun k => match k with
  | 0 => .array .int
  | 1 => .int
  | 2 => .int
  | _ => .int
abbrev wsX10 : List Cond := u_ws RX1 TX1 4
theorem nmX1 : ∀ a, a < 4 → ∀ b, b < 4 → a ≠ b → (TX1 a).2.1 ≠ (TX1 b).2.1 := by decide +kernel
theorem tyX1_ok : ∀ k, k < 4 → parseFieldDescriptor (TX1 k).2.2.1 = some (tyX1 k) := by decide +kernel
abbrev cX1_init : ByteArray := prog_3_method_1_code
def yX1_init : MethodName := ⟨RX1, "<init>", "()V"⟩
abbrev cX1_size : ByteArray := prog_3_method_2_code
def yX1_size : MethodName := ⟨RX1, "size", "()I"⟩
abbrev cX1_moment : ByteArray := prog_3_method_3_code
def yX1_moment : MethodName := ⟨RX1, "moment", "()I"⟩
abbrev cX1_version : ByteArray := prog_3_method_4_code
def yX1_version : MethodName := ⟨RX1, "version", "()I"⟩
abbrev cX1_has : ByteArray := prog_3_method_5_code
def yX1_has : MethodName := ⟨RX1, "has", "(I)Z"⟩
abbrev cX1_property : ByteArray := prog_3_method_6_code
def yX1_property : MethodName := ⟨RX1, "property", "(II)I"⟩
abbrev cX1_change : ByteArray := prog_3_method_7_code
def yX1_change : MethodName := ⟨RX1, "change", "(III)V"⟩
abbrev cX1_addLine : ByteArray := prog_3_method_8_code
def yX1_addLine : MethodName := ⟨RX1, "addLine", "(IIII)V"⟩
abbrev cX1_drop : ByteArray := prog_3_method_9_code
def yX1_drop : MethodName := ⟨RX1, "drop", "(I)V"⟩
abbrev cX1_moveTo : ByteArray := prog_3_method_10_code
def yX1_moveTo : MethodName := ⟨RX1, "moveTo", "(I)V"⟩
abbrev cX1_saveTo : ByteArray := prog_3_method_11_code
def yX1_saveTo : MethodName := ⟨RX1, "saveTo", "([II)V"⟩
abbrev cX1_restoreFrom : ByteArray := prog_3_method_12_code
def yX1_restoreFrom : MethodName := ⟨RX1, "restoreFrom", "([II)V"⟩
abbrev cX1_valueAt : ByteArray := prog_3_method_13_code
def yX1_valueAt : MethodName := ⟨RX1, "valueAt", "(II)I"⟩
abbrev cX1_lives : ByteArray := prog_3_method_15_code
def yX1_lives : MethodName := ⟨RX1, "lives", "(II)Z"⟩
abbrev cX1_counts : ByteArray := prog_3_method_16_code
def yX1_counts : MethodName := ⟨RX1, "counts", "(III)Z"⟩
abbrev cX1_living : ByteArray := prog_3_method_17_code
def yX1_living : MethodName := ⟨RX1, "living", "()I"⟩
abbrev cX1_livesChangeAt : ByteArray := prog_3_method_18_code
def yX1_livesChangeAt : MethodName := ⟨RX1, "livesChangeAt", "(I)Z"⟩
abbrev cX1_isLower : ByteArray := prog_3_method_19_code
def yX1_isLower : MethodName := ⟨RX1, "isLower", "(III)Z"⟩
abbrev cX1_rankOf : ByteArray := prog_3_method_20_code
def yX1_rankOf : MethodName := ⟨RX1, "rankOf", "(II)I"⟩
abbrev cX1_lowestBut : ByteArray := prog_3_method_21_code
def yX1_lowestBut : MethodName := ⟨RX1, "lowestBut", "(III)I"⟩
def RX2 : String := "LineLives$Present"
def TX2 : u_T := fun k => match k with
  | 0 => ("LineLives$Present", "lines", "LLineLives$Lines;", true)
  | 1 => ("LineLives$Present", "lowest", "[I", true)
  | 2 => ("LineLives$Present", "starts", "[I", true)
  | 3 => ("LineLives$Present", "rows", "I", false)
  | _ => ("LineLives$Present", "version", "I", false)
def tyX2 : Nat → FieldType := fun k => match k with
  | 0 => .object "LineLives$Lines"
  | 1 => .array .int
  | 2 => .array .int
  | 3 => .int
  | _ => .int
abbrev wsX20 : List Cond := u_ws RX2 TX2 5
theorem nmX2 : ∀ a, a < 5 → ∀ b, b < 5 → a ≠ b → (TX2 a).2.1 ≠ (TX2 b).2.1 := by decide +kernel
theorem tyX2_ok : ∀ k, k < 5 → parseFieldDescriptor (TX2 k).2.2.1 = some (tyX2 k) := by decide +kernel
abbrev cX2_init : ByteArray := prog_4_method_1_code
def yX2_init : MethodName := ⟨RX2, "<init>", "(LLineLives$Lines;)V"⟩
abbrev cX2_lineAt : ByteArray := prog_4_method_2_code
def yX2_lineAt : MethodName := ⟨RX2, "lineAt", "(I)I"⟩
abbrev cX2_placesOf : ByteArray := prog_4_method_3_code
def yX2_placesOf : MethodName := ⟨RX2, "placesOf", "(I)I"⟩
abbrev cX2_rowCount : ByteArray := prog_4_method_4_code
def yX2_rowCount : MethodName := ⟨RX2, "rowCount", "()I"⟩
abbrev cX2_rowStart : ByteArray := prog_4_method_5_code
def yX2_rowStart : MethodName := ⟨RX2, "rowStart", "(I)I"⟩
abbrev cX2_renew : ByteArray := prog_4_method_6_code
def yX2_renew : MethodName := ⟨RX2, "renew", "()V"⟩
def RX3 : String := "LineLives$Reader"
def TX3 : u_T := fun k => match k with
  | 0 => ("LineLives$Reader", "stage", "I", false)
  | 1 => ("LineLives$Reader", "number", "I", false)
  | 2 => ("LineLives$Reader", "negative", "Z", false)
  | 3 => ("LineLives$Reader", "slope", "I", false)
  | 4 => ("LineLives$Reader", "offset", "I", false)
  | _ => ("LineLives$Reader", "firstMoment", "I", false)
def tyX3 : Nat → FieldType := fun k => match k with
  | 0 => .int
  | 1 => .int
  | 2 => .boolean
  | 3 => .int
  | 4 => .int
  | _ => .int
abbrev wsX30 : List Cond := u_ws RX3 TX3 6
theorem nmX3 : ∀ a, a < 6 → ∀ b, b < 6 → a ≠ b → (TX3 a).2.1 ≠ (TX3 b).2.1 := by decide +kernel
theorem tyX3_ok : ∀ k, k < 6 → parseFieldDescriptor (TX3 k).2.2.1 = some (tyX3 k) := by decide +kernel
abbrev cX3_init : ByteArray := prog_5_method_1_code
def yX3_init : MethodName := ⟨RX3, "<init>", "()V"⟩
def RX4 : String := "LineLives$Reigns"
def TX4 : u_T := fun k => match k with
  | 0 => ("LineLives$Reigns", "lines", "LLineLives$Lines;", true)
  | 1 => ("LineLives$Reigns", "firstMoments", "[I", true)
  | _ => ("LineLives$Reigns", "version", "I", false)
def tyX4 : Nat → FieldType := fun k => match k with
  | 0 => .object "LineLives$Lines"
  | 1 => .array .int
  | _ => .int
abbrev wsX40 : List Cond := u_ws RX4 TX4 3
theorem nmX4 : ∀ a, a < 3 → ∀ b, b < 3 → a ≠ b → (TX4 a).2.1 ≠ (TX4 b).2.1 := by decide +kernel
theorem tyX4_ok : ∀ k, k < 3 → parseFieldDescriptor (TX4 k).2.2.1 = some (tyX4 k) := by decide +kernel
abbrev cX4_init : ByteArray := prog_6_method_1_code
def yX4_init : MethodName := ⟨RX4, "<init>", "(LLineLives$Lines;)V"⟩
abbrev cX4_firstMoment : ByteArray := prog_6_method_2_code
def yX4_firstMoment : MethodName := ⟨RX4, "firstMoment", "(I)I"⟩
abbrev cX4_neverLowest : ByteArray := prog_6_method_3_code
def yX4_neverLowest : MethodName := ⟨RX4, "neverLowest", "()I"⟩
abbrev cX4_renew : ByteArray := prog_6_method_4_code
def yX4_renew : MethodName := ⟨RX4, "renew", "()V"⟩
abbrev cX4_note : ByteArray := prog_6_method_5_code
def yX4_note : MethodName := ⟨RX4, "note", "(I)V"⟩
def RX5 : String := "LineLives$Text"
def TX5 : u_T := fun k => match k with
  | 0 => ("LineLives$Text", "codes", "[I", true)
  | 1 => ("LineLives$Text", "reader", "LLineLives$Reader;", true)
  | _ => ("LineLives$Text", "length", "I", false)
def tyX5 : Nat → FieldType := fun k => match k with
  | 0 => .array .int
  | 1 => .object "LineLives$Reader"
  | _ => .int
abbrev wsX50 : List Cond := u_ws RX5 TX5 3
theorem nmX5 : ∀ a, a < 3 → ∀ b, b < 3 → a ≠ b → (TX5 a).2.1 ≠ (TX5 b).2.1 := by decide +kernel
theorem tyX5_ok : ∀ k, k < 3 → parseFieldDescriptor (TX5 k).2.2.1 = some (tyX5 k) := by decide +kernel
abbrev cX5_init : ByteArray := prog_7_method_1_code
def yX5_init : MethodName := ⟨RX5, "<init>", "()V"⟩
def RX6 : String := "LineLives$Tree"
def TX6 : u_T := fun k => match k with
  | 0 => ("LineLives$Tree", "lines", "LLineLives$Lines;", true)
  | 1 => ("LineLives$Tree", "firstPlaces", "[I", true)
  | 2 => ("LineLives$Tree", "lastPlaces", "[I", true)
  | 3 => ("LineLives$Tree", "kept", "[I", true)
  | 4 => ("LineLives$Tree", "steps", "[I", true)
  | _ => ("LineLives$Tree", "version", "I", false)
def tyX6 : Nat → FieldType := fun k => match k with
  | 0 => .object "LineLives$Lines"
  | 1 => .array .int
  | 2 => .array .int
  | 3 => .array .int
  | 4 => .array .int
  | _ => .int
abbrev wsX60 : List Cond := u_ws RX6 TX6 6
theorem nmX6 : ∀ a, a < 6 → ∀ b, b < 6 → a ≠ b → (TX6 a).2.1 ≠ (TX6 b).2.1 := by decide +kernel
theorem tyX6_ok : ∀ k, k < 6 → parseFieldDescriptor (TX6 k).2.2.1 = some (tyX6 k) := by decide +kernel
abbrev cX6_init : ByteArray := prog_8_method_1_code
def yX6_init : MethodName := ⟨RX6, "<init>", "(LLineLives$Lines;)V"⟩
abbrev cX6_firstPlace : ByteArray := prog_8_method_2_code
def yX6_firstPlace : MethodName := ⟨RX6, "firstPlace", "(I)I"⟩
abbrev cX6_lastPlace : ByteArray := prog_8_method_3_code
def yX6_lastPlace : MethodName := ⟨RX6, "lastPlace", "(I)I"⟩
abbrev cX6_middle : ByteArray := prog_8_method_4_code
def yX6_middle : MethodName := ⟨RX6, "middle", "(I)I"⟩
abbrev cX6_lineOf : ByteArray := prog_8_method_5_code
def yX6_lineOf : MethodName := ⟨RX6, "lineOf", "(I)I"⟩
abbrev cX6_stepsAt : ByteArray := prog_8_method_6_code
def yX6_stepsAt : MethodName := ⟨RX6, "stepsAt", "(I)I"⟩
abbrev cX6_nodesOf : ByteArray := prog_8_method_7_code
def yX6_nodesOf : MethodName := ⟨RX6, "nodesOf", "(I)I"⟩
abbrev cX6_allSteps : ByteArray := prog_8_method_8_code
def yX6_allSteps : MethodName := ⟨RX6, "allSteps", "()I"⟩
abbrev cX6_has : ByteArray := prog_8_method_9_code
def yX6_has : MethodName := ⟨RX6, "has", "(I)Z"⟩
abbrev cX6_renew : ByteArray := prog_8_method_10_code
def yX6_renew : MethodName := ⟨RX6, "renew", "()V"⟩
abbrev cX6_put : ByteArray := prog_8_method_11_code
def yX6_put : MethodName := ⟨RX6, "put", "(II)V"⟩
def RX7 : String := "LineLives"
def TX7 : u_T := fun k => match k with
  | 0 => ("LineLives", "lines", "LLineLives$Lines;", true)
  | 1 => ("LineLives", "history", "LLineLives$History;", true)
  | 2 => ("LineLives", "text", "LLineLives$Text;", true)
  | 3 => ("LineLives", "present", "LLineLives$Present;", true)
  | 4 => ("LineLives", "tree", "LLineLives$Tree;", true)
  | _ => ("LineLives", "reigns", "LLineLives$Reigns;", true)
def tyX7 : Nat → FieldType := fun k => match k with
  | 0 => .object "LineLives$Lines"
  | 1 => .object "LineLives$History"
  | 2 => .object "LineLives$Text"
  | 3 => .object "LineLives$Present"
  | 4 => .object "LineLives$Tree"
  | _ => .object "LineLives$Reigns"
abbrev wsX70 : List Cond := u_ws RX7 TX7 6
theorem nmX7 : ∀ a, a < 6 → ∀ b, b < 6 → a ≠ b → (TX7 a).2.1 ≠ (TX7 b).2.1 := by decide +kernel
theorem tyX7_ok : ∀ k, k < 6 → parseFieldDescriptor (TX7 k).2.2.1 = some (tyX7 k) := by decide +kernel
abbrev cX7_init : ByteArray := prog_1_method_1_code
def yX7_init : MethodName := ⟨RX7, "<init>", "()V"⟩
abbrev cX7_add : ByteArray := prog_1_method_2_code
def yX7_add : MethodName := ⟨RX7, "add", "(II)I"⟩
abbrev cX7_span : ByteArray := prog_1_method_3_code
def yX7_span : MethodName := ⟨RX7, "span", "(III)I"⟩
abbrev cX7_live : ByteArray := prog_1_method_4_code
def yX7_live : MethodName := ⟨RX7, "live", "(III)I"⟩
abbrev cX7_lift : ByteArray := prog_1_method_5_code
def yX7_lift : MethodName := ⟨RX7, "lift", "(II)I"⟩
abbrev cX7_turn : ByteArray := prog_1_method_6_code
def yX7_turn : MethodName := ⟨RX7, "turn", "(III)I"⟩
abbrev cX7_remove : ByteArray := prog_1_method_7_code
def yX7_remove : MethodName := ⟨RX7, "remove", "(I)I"⟩
abbrev cX7_prune : ByteArray := prog_1_method_8_code
def yX7_prune : MethodName := ⟨RX7, "prune", "()I"⟩
abbrev cX7_go : ByteArray := prog_1_method_9_code
def yX7_go : MethodName := ⟨RX7, "go", "(I)I"⟩
abbrev cX7_undo : ByteArray := prog_1_method_14_code
def yX7_undo : MethodName := ⟨RX7, "undo", "()I"⟩
abbrev cX7_line : ByteArray := prog_1_method_15_code
def yX7_line : MethodName := ⟨RX7, "line", "(II)I"⟩
abbrev cX7_lowest : ByteArray := prog_1_method_16_code
def yX7_lowest : MethodName := ⟨RX7, "lowest", "(II)I"⟩
abbrev cX7_value : ByteArray := prog_1_method_17_code
def yX7_value : MethodName := ⟨RX7, "value", "(I)I"⟩
abbrev cX7_ranked : ByteArray := prog_1_method_18_code
def yX7_ranked : MethodName := ⟨RX7, "ranked", "(II)I"⟩
abbrev cX7_node : ByteArray := prog_1_method_19_code
def yX7_node : MethodName := ⟨RX7, "node", "(II)I"⟩
abbrev cX7_row : ByteArray := prog_1_method_20_code
def yX7_row : MethodName := ⟨RX7, "row", "(II)I"⟩
abbrev cX7_sum : ByteArray := prog_1_method_21_code
def yX7_sum : MethodName := ⟨RX7, "sum", "(II)I"⟩
abbrev cX7_count : ByteArray := prog_1_method_22_code
def yX7_count : MethodName := ⟨RX7, "count", "(I)I"⟩
abbrev cX7_worth : ByteArray := prog_1_method_25_code
def yX7_worth : MethodName := ⟨RX7, "worth", "(I)I"⟩
abbrev cX7_mean : ByteArray := prog_1_method_28_code
def yX7_mean : MethodName := ⟨RX7, "mean", "()D"⟩
abbrev cX7_isPlace : ByteArray := prog_1_method_35_code
def yX7_isPlace : MethodName := ⟨RX7, "isPlace", "(I)Z"⟩
abbrev cX7_isMoment : ByteArray := prog_1_method_36_code
def yX7_isMoment : MethodName := ⟨RX7, "isMoment", "(I)Z"⟩
abbrev cX7_isSlope : ByteArray := prog_1_method_37_code
def yX7_isSlope : MethodName := ⟨RX7, "isSlope", "(I)Z"⟩
abbrev cX7_isOffset : ByteArray := prog_1_method_38_code
def yX7_isOffset : MethodName := ⟨RX7, "isOffset", "(I)Z"⟩
abbrev cX7_isStretch : ByteArray := prog_1_method_39_code
def yX7_isStretch : MethodName := ⟨RX7, "isStretch", "(III)Z"⟩
abbrev cX7_changeStretch : ByteArray := prog_1_method_40_code
def yX7_changeStretch : MethodName := ⟨RX7, "changeStretch", "(IIIII)I"⟩
def RX8 : String := "LineLivesModel"
def TX8 : u_T := fun k => match k with
  | _ => ("", "", "", false)
def tyX8 : Nat → FieldType := fun k => match k with
  | _ => .int
abbrev wsX80 : List Cond := u_ws RX8 TX8 0
theorem nmX8 : ∀ a, a < 0 → ∀ b, b < 0 → a ≠ b → (TX8 a).2.1 ≠ (TX8 b).2.1 := by decide +kernel
theorem tyX8_ok : ∀ k, k < 0 → parseFieldDescriptor (TX8 k).2.2.1 = some (tyX8 k) := by decide +kernel
def RJx145de : String := "java/io/Serializable"
def TJx145de : u_T := fun k => match k with
  | _ => ("", "", "", false)
def tyJx145de : Nat → FieldType := fun k => match k with
  | _ => .int
abbrev wsJx145de0 : List Cond := u_ws RJx145de TJx145de 0
theorem nmJx145de : ∀ a, a < 0 → ∀ b, b < 0 → a ≠ b → (TJx145de a).2.1 ≠ (TJx145de b).2.1 := by decide +kernel
theorem tyJx145de_ok : ∀ k, k < 0 → parseFieldDescriptor (TJx145de k).2.2.1 = some (tyJx145de k) := by decide +kernel
def RJ6 : String := "java/lang/Integer"
def TJ6 : u_T := fun k => match k with
  | _ => ("", "", "", false)
def tyJ6 : Nat → FieldType := fun k => match k with
  | _ => .int
abbrev wsJ60 : List Cond := u_ws RJ6 TJ6 0
theorem nmJ6 : ∀ a, a < 0 → ∀ b, b < 0 → a ≠ b → (TJ6 a).2.1 ≠ (TJ6 b).2.1 := by decide +kernel
theorem tyJ6_ok : ∀ k, k < 0 → parseFieldDescriptor (TJ6 k).2.2.1 = some (tyJ6 k) := by decide +kernel
abbrev cJ6_bitCount_0f7a4 : ByteArray := prog_15_method_49_code
def yJ6_bitCount_0f7a4 : MethodName := ⟨RJ6, "bitCount", "(I)I"⟩
def RJ0 : String := "java/lang/String"
def TJ0 : u_T := fun k => match k with
  | _ => ("", "", "", false)
def tyJ0 : Nat → FieldType := fun k => match k with
  | _ => .int
abbrev wsJ00 : List Cond := u_ws RJ0 TJ0 0
theorem nmJ0 : ∀ a, a < 0 → ∀ b, b < 0 → a ≠ b → (TJ0 a).2.1 ≠ (TJ0 b).2.1 := by decide +kernel
theorem tyJ0_ok : ∀ k, k < 0 → parseFieldDescriptor (TJ0 k).2.2.1 = some (tyJ0 k) := by decide +kernel
def RJ10 : String := "java/lang/System"
def TJ10 : u_T := fun k => match k with
  | _ => ("", "", "", false)
def tyJ10 : Nat → FieldType := fun k => match k with
  | _ => .int
abbrev wsJ100 : List Cond := u_ws RJ10 TJ10 0
theorem nmJ10 : ∀ a, a < 0 → ∀ b, b < 0 → a ≠ b → (TJ10 a).2.1 ≠ (TJ10 b).2.1 := by decide +kernel
theorem tyJ10_ok : ∀ k, k < 0 → parseFieldDescriptor (TJ10 k).2.2.1 = some (tyJ10 k) := by decide +kernel
def RJ7 : String := "java/util/Arrays"
def TJ7 : u_T := fun k => match k with
  | _ => ("", "", "", false)
def tyJ7 : Nat → FieldType := fun k => match k with
  | _ => .int
abbrev wsJ70 : List Cond := u_ws RJ7 TJ7 0
theorem nmJ7 : ∀ a, a < 0 → ∀ b, b < 0 → a ≠ b → (TJ7 a).2.1 ≠ (TJ7 b).2.1 := by decide +kernel
theorem tyJ7_ok : ∀ k, k < 0 → parseFieldDescriptor (TJ7 k).2.2.1 = some (tyJ7 k) := by decide +kernel
abbrev cJ7_fill_53178 : ByteArray := prog_20_method_103_code
def yJ7_fill_53178 : MethodName := ⟨RJ7, "fill", "([II)V"⟩
def RL : String := "LineLivesLaw"
abbrev cL_low : ByteArray := method_2_code
def yL_low : MethodName := ⟨RL, "low", "(II)I"⟩
abbrev cL_cell : ByteArray := method_3_code
def yL_cell : MethodName := ⟨RL, "cell", "([II)I"⟩
abbrev cL_valueOf : ByteArray := method_4_code
def yL_valueOf : MethodName := ⟨RL, "valueOf", "(LLineLives;II)I"⟩
abbrev cL_counts : ByteArray := method_5_code
def yL_counts : MethodName := ⟨RL, "counts", "(LLineLives;III)Z"⟩
abbrev cL_lowest : ByteArray := method_6_code
def yL_lowest : MethodName := ⟨RL, "lowest", "(LLineLives;II)I"⟩
abbrev cL_turn : ByteArray := method_7_code
def yL_turn : MethodName := ⟨RL, "turn", "(LLineLives;III)I"⟩
abbrev cL_lift : ByteArray := method_8_code
def yL_lift : MethodName := ⟨RL, "lift", "(LLineLives;II)I"⟩
abbrev cL_add : ByteArray := method_9_code
def yL_add : MethodName := ⟨RL, "add", "(LLineLives;II)I"⟩
abbrev cL_undo : ByteArray := method_10_code
def yL_undo : MethodName := ⟨RL, "undo", "(LLineLives;)I"⟩
abbrev cL_value : ByteArray := method_11_code
def yL_value : MethodName := ⟨RL, "value", "(LLineLives;I)I"⟩
abbrev cL_places : ByteArray := method_12_code
def yL_places : MethodName := ⟨RL, "places", "(LLineLives;)Z"⟩
abbrev cL_lines : ByteArray := method_13_code
def yL_lines : MethodName := ⟨RL, "lines", "(LLineLives;)Z"⟩
abbrev cL_act : ByteArray := method_14_code
def yL_act : MethodName := ⟨RL, "act", "(LLineLives;[II)I"⟩
abbrev cL_law : ByteArray := code
def yL_law : MethodName := ⟨RL, "law", "([I)Z"⟩
abbrev vwCl : List vw_C := [(RX0, TX0, 2), (RX1, TX1, 4), (RX2, TX2, 5), (RX3, TX3, 6), (RX4, TX4, 3), (RX5, TX5, 3), (RX6, TX6, 6), (RX7, TX7, 6)]
end
section
theorem dX0_init_0 : decode cX0_init 0 = .ok (.aload_n 0, 1) := by decide +kernel
theorem dX0_init_1 : decode cX0_init 1 = .ok (.invokespecial 3, 3) := by decide +kernel
theorem dX0_init_4 : decode cX0_init 4 = .ok (.aload_n 0, 1) := by decide +kernel
theorem dX0_init_5 : decode cX0_init 5 = .ok (.sipush 732, 3) := by decide +kernel
theorem dX0_init_8 : decode cX0_init 8 = .ok (.newarray .int, 2) := by decide +kernel
theorem dX0_init_10 : decode cX0_init 10 = .ok (.putfield 11, 3) := by decide +kernel
theorem dX0_init_13 : decode cX0_init 13 = .ok (.aload_n 0, 1) := by decide +kernel
theorem dX0_init_14 : decode cX0_init 14 = .ok (.iconst 0, 1) := by decide +kernel
theorem dX0_init_15 : decode cX0_init 15 = .ok (.putfield 17, 3) := by decide +kernel
theorem dX0_init_18 : decode cX0_init 18 = .ok (.return_, 1) := by decide +kernel
theorem dX0_size_0 : decode cX0_size 0 = .ok (.aload_n 0, 1) := by decide +kernel
theorem dX0_size_1 : decode cX0_size 1 = .ok (.getfield 17, 3) := by decide +kernel
theorem dX0_size_4 : decode cX0_size 4 = .ok (.ireturn, 1) := by decide +kernel
theorem dX0_save_0 : decode cX0_save 0 = .ok (.aload_n 0, 1) := by decide +kernel
theorem dX0_save_1 : decode cX0_save 1 = .ok (.getfield 17, 3) := by decide +kernel
theorem dX0_save_4 : decode cX0_save 4 = .ok (.bipush 6, 2) := by decide +kernel
theorem dX0_save_6 : decode cX0_save 6 = .ok (.if_icmp .lt 30, 3) := by decide +kernel
theorem dX0_save_9 : decode cX0_save 9 = .ok (.aload_n 0, 1) := by decide +kernel
theorem dX0_save_10 : decode cX0_save 10 = .ok (.getfield 11, 3) := by decide +kernel
theorem dX0_save_13 : decode cX0_save 13 = .ok (.bipush 122, 2) := by decide +kernel
theorem dX0_save_15 : decode cX0_save 15 = .ok (.aload_n 0, 1) := by decide +kernel
theorem dX0_save_16 : decode cX0_save 16 = .ok (.getfield 11, 3) := by decide +kernel
theorem dX0_save_19 : decode cX0_save 19 = .ok (.iconst 0, 1) := by decide +kernel
theorem dX0_save_20 : decode cX0_save 20 = .ok (.aload_n 0, 1) := by decide +kernel
theorem dX0_save_21 : decode cX0_save 21 = .ok (.getfield 11, 3) := by decide +kernel
theorem dX0_save_24 : decode cX0_save 24 = .ok (.arraylength, 1) := by decide +kernel
theorem dX0_save_25 : decode cX0_save 25 = .ok (.bipush 122, 2) := by decide +kernel
theorem dX0_save_27 : decode cX0_save 27 = .ok (.isub, 1) := by decide +kernel
theorem dX0_save_28 : decode cX0_save 28 = .ok (.invokestatic 21, 3) := by decide +kernel
theorem dX0_save_31 : decode cX0_save 31 = .ok (.aload_n 0, 1) := by decide +kernel
theorem dX0_save_32 : decode cX0_save 32 = .ok (.iconst 5, 1) := by decide +kernel
theorem dX0_save_33 : decode cX0_save 33 = .ok (.putfield 17, 3) := by decide +kernel
theorem dX0_save_36 : decode cX0_save 36 = .ok (.aload_n 1, 1) := by decide +kernel
theorem dX0_save_37 : decode cX0_save 37 = .ok (.aload_n 0, 1) := by decide +kernel
theorem dX0_save_38 : decode cX0_save 38 = .ok (.getfield 11, 3) := by decide +kernel
theorem dX0_save_41 : decode cX0_save 41 = .ok (.aload_n 0, 1) := by decide +kernel
theorem dX0_save_42 : decode cX0_save 42 = .ok (.getfield 17, 3) := by decide +kernel
theorem dX0_save_45 : decode cX0_save 45 = .ok (.bipush 122, 2) := by decide +kernel
theorem dX0_save_47 : decode cX0_save 47 = .ok (.imul, 1) := by decide +kernel
theorem dX0_save_48 : decode cX0_save 48 = .ok (.invokevirtual 27, 3) := by decide +kernel
theorem dX0_save_51 : decode cX0_save 51 = .ok (.aload_n 0, 1) := by decide +kernel
theorem dX0_save_52 : decode cX0_save 52 = .ok (.dup, 1) := by decide +kernel
theorem dX0_save_53 : decode cX0_save 53 = .ok (.getfield 17, 3) := by decide +kernel
theorem dX0_save_56 : decode cX0_save 56 = .ok (.iconst 1, 1) := by decide +kernel
theorem dX0_save_57 : decode cX0_save 57 = .ok (.iadd, 1) := by decide +kernel
theorem dX0_save_58 : decode cX0_save 58 = .ok (.putfield 17, 3) := by decide +kernel
theorem dX0_save_61 : decode cX0_save 61 = .ok (.return_, 1) := by decide +kernel
theorem dX0_restore_0 : decode cX0_restore 0 = .ok (.aload_n 0, 1) := by decide +kernel
theorem dX0_restore_1 : decode cX0_restore 1 = .ok (.getfield 17, 3) := by decide +kernel
theorem dX0_restore_4 : decode cX0_restore 4 = .ok (.ifCond .le 28, 3) := by decide +kernel
theorem dX0_restore_7 : decode cX0_restore 7 = .ok (.aload_n 0, 1) := by decide +kernel
theorem dX0_restore_8 : decode cX0_restore 8 = .ok (.dup, 1) := by decide +kernel
theorem dX0_restore_9 : decode cX0_restore 9 = .ok (.getfield 17, 3) := by decide +kernel
theorem dX0_restore_12 : decode cX0_restore 12 = .ok (.iconst 1, 1) := by decide +kernel
theorem dX0_restore_13 : decode cX0_restore 13 = .ok (.isub, 1) := by decide +kernel
theorem dX0_restore_14 : decode cX0_restore 14 = .ok (.putfield 17, 3) := by decide +kernel
theorem dX0_restore_17 : decode cX0_restore 17 = .ok (.aload_n 1, 1) := by decide +kernel
theorem dX0_restore_18 : decode cX0_restore 18 = .ok (.aload_n 0, 1) := by decide +kernel
theorem dX0_restore_19 : decode cX0_restore 19 = .ok (.getfield 11, 3) := by decide +kernel
theorem dX0_restore_22 : decode cX0_restore 22 = .ok (.aload_n 0, 1) := by decide +kernel
theorem dX0_restore_23 : decode cX0_restore 23 = .ok (.getfield 17, 3) := by decide +kernel
theorem dX0_restore_26 : decode cX0_restore 26 = .ok (.bipush 122, 2) := by decide +kernel
theorem dX0_restore_28 : decode cX0_restore 28 = .ok (.imul, 1) := by decide +kernel
theorem dX0_restore_29 : decode cX0_restore 29 = .ok (.invokevirtual 31, 3) := by decide +kernel
theorem dX0_restore_32 : decode cX0_restore 32 = .ok (.return_, 1) := by decide +kernel
theorem dX1_init_0 : decode cX1_init 0 = .ok (.aload_n 0, 1) := by decide +kernel
theorem dX1_init_1 : decode cX1_init 1 = .ok (.invokespecial 3, 3) := by decide +kernel
theorem dX1_init_4 : decode cX1_init 4 = .ok (.aload_n 0, 1) := by decide +kernel
theorem dX1_init_5 : decode cX1_init 5 = .ok (.bipush 120, 2) := by decide +kernel
theorem dX1_init_7 : decode cX1_init 7 = .ok (.newarray .int, 2) := by decide +kernel
theorem dX1_init_9 : decode cX1_init 9 = .ok (.putfield 9, 3) := by decide +kernel
theorem dX1_init_12 : decode cX1_init 12 = .ok (.aload_n 0, 1) := by decide +kernel
theorem dX1_init_13 : decode cX1_init 13 = .ok (.iconst 0, 1) := by decide +kernel
theorem dX1_init_14 : decode cX1_init 14 = .ok (.putfield 15, 3) := by decide +kernel
theorem dX1_init_17 : decode cX1_init 17 = .ok (.aload_n 0, 1) := by decide +kernel
theorem dX1_init_18 : decode cX1_init 18 = .ok (.iconst 0, 1) := by decide +kernel
theorem dX1_init_19 : decode cX1_init 19 = .ok (.putfield 19, 3) := by decide +kernel
theorem dX1_init_22 : decode cX1_init 22 = .ok (.aload_n 0, 1) := by decide +kernel
theorem dX1_init_23 : decode cX1_init 23 = .ok (.iconst 0, 1) := by decide +kernel
theorem dX1_init_24 : decode cX1_init 24 = .ok (.putfield 22, 3) := by decide +kernel
theorem dX1_init_27 : decode cX1_init 27 = .ok (.return_, 1) := by decide +kernel
theorem dX1_size_0 : decode cX1_size 0 = .ok (.aload_n 0, 1) := by decide +kernel
theorem dX1_size_1 : decode cX1_size 1 = .ok (.getfield 15, 3) := by decide +kernel
theorem dX1_size_4 : decode cX1_size 4 = .ok (.ireturn, 1) := by decide +kernel
theorem dX1_moment_0 : decode cX1_moment 0 = .ok (.aload_n 0, 1) := by decide +kernel
theorem dX1_moment_1 : decode cX1_moment 1 = .ok (.getfield 19, 3) := by decide +kernel
theorem dX1_moment_4 : decode cX1_moment 4 = .ok (.ireturn, 1) := by decide +kernel
theorem dX1_version_0 : decode cX1_version 0 = .ok (.aload_n 0, 1) := by decide +kernel
theorem dX1_version_1 : decode cX1_version 1 = .ok (.getfield 22, 3) := by decide +kernel
theorem dX1_version_4 : decode cX1_version 4 = .ok (.ireturn, 1) := by decide +kernel
theorem dX1_has_0 : decode cX1_has 0 = .ok (.iload_n 1, 1) := by decide +kernel
theorem dX1_has_1 : decode cX1_has 1 = .ok (.ifCond .lt 15, 3) := by decide +kernel
theorem dX1_has_4 : decode cX1_has 4 = .ok (.iload_n 1, 1) := by decide +kernel
theorem dX1_has_5 : decode cX1_has 5 = .ok (.aload_n 0, 1) := by decide +kernel
theorem dX1_has_6 : decode cX1_has 6 = .ok (.getfield 15, 3) := by decide +kernel
theorem dX1_has_9 : decode cX1_has 9 = .ok (.if_icmp .ge 7, 3) := by decide +kernel
theorem dX1_has_12 : decode cX1_has 12 = .ok (.iconst 1, 1) := by decide +kernel
theorem dX1_has_13 : decode cX1_has 13 = .ok (.goto 4, 3) := by decide +kernel
theorem dX1_has_16 : decode cX1_has 16 = .ok (.iconst 0, 1) := by decide +kernel
theorem dX1_has_17 : decode cX1_has 17 = .ok (.ireturn, 1) := by decide +kernel
theorem dX1_property_0 : decode cX1_property 0 = .ok (.iload_n 1, 1) := by decide +kernel
theorem dX1_property_1 : decode cX1_property 1 = .ok (.ifCond .lt 21, 3) := by decide +kernel
theorem dX1_property_4 : decode cX1_property 4 = .ok (.iload_n 1, 1) := by decide +kernel
theorem dX1_property_5 : decode cX1_property 5 = .ok (.aload_n 0, 1) := by decide +kernel
theorem dX1_property_6 : decode cX1_property 6 = .ok (.getfield 15, 3) := by decide +kernel
theorem dX1_property_9 : decode cX1_property 9 = .ok (.if_icmp .ge 13, 3) := by decide +kernel
theorem dX1_property_12 : decode cX1_property 12 = .ok (.iload_n 2, 1) := by decide +kernel
theorem dX1_property_13 : decode cX1_property 13 = .ok (.ifCond .lt 9, 3) := by decide +kernel
theorem dX1_property_16 : decode cX1_property 16 = .ok (.iload_n 2, 1) := by decide +kernel
theorem dX1_property_17 : decode cX1_property 17 = .ok (.bipush 6, 2) := by decide +kernel
theorem dX1_property_19 : decode cX1_property 19 = .ok (.if_icmp .lt 5, 3) := by decide +kernel
theorem dX1_property_22 : decode cX1_property 22 = .ok (.iconst (-1), 1) := by decide +kernel
theorem dX1_property_23 : decode cX1_property 23 = .ok (.ireturn, 1) := by decide +kernel
theorem dX1_property_24 : decode cX1_property 24 = .ok (.aload_n 0, 1) := by decide +kernel
theorem dX1_property_25 : decode cX1_property 25 = .ok (.getfield 9, 3) := by decide +kernel
theorem dX1_property_28 : decode cX1_property 28 = .ok (.iload_n 1, 1) := by decide +kernel
theorem dX1_property_29 : decode cX1_property 29 = .ok (.bipush 6, 2) := by decide +kernel
theorem dX1_property_31 : decode cX1_property 31 = .ok (.imul, 1) := by decide +kernel
theorem dX1_property_32 : decode cX1_property 32 = .ok (.iload_n 2, 1) := by decide +kernel
theorem dX1_property_33 : decode cX1_property 33 = .ok (.iadd, 1) := by decide +kernel
theorem dX1_property_34 : decode cX1_property 34 = .ok (.iaload, 1) := by decide +kernel
theorem dX1_property_35 : decode cX1_property 35 = .ok (.ireturn, 1) := by decide +kernel
theorem dX1_change_0 : decode cX1_change 0 = .ok (.aload_n 0, 1) := by decide +kernel
theorem dX1_change_1 : decode cX1_change 1 = .ok (.iload_n 1, 1) := by decide +kernel
theorem dX1_change_2 : decode cX1_change 2 = .ok (.invokevirtual 25, 3) := by decide +kernel
theorem dX1_change_5 : decode cX1_change 5 = .ok (.ifCond .eq 35, 3) := by decide +kernel
theorem dX1_change_8 : decode cX1_change 8 = .ok (.iload_n 2, 1) := by decide +kernel
theorem dX1_change_9 : decode cX1_change 9 = .ok (.ifCond .lt 31, 3) := by decide +kernel
theorem dX1_change_12 : decode cX1_change 12 = .ok (.iload_n 2, 1) := by decide +kernel
theorem dX1_change_13 : decode cX1_change 13 = .ok (.bipush 6, 2) := by decide +kernel
theorem dX1_change_15 : decode cX1_change 15 = .ok (.if_icmp .ge 25, 3) := by decide +kernel
theorem dX1_change_18 : decode cX1_change 18 = .ok (.aload_n 0, 1) := by decide +kernel
theorem dX1_change_19 : decode cX1_change 19 = .ok (.getfield 9, 3) := by decide +kernel
theorem dX1_change_22 : decode cX1_change 22 = .ok (.iload_n 1, 1) := by decide +kernel
theorem dX1_change_23 : decode cX1_change 23 = .ok (.bipush 6, 2) := by decide +kernel
theorem dX1_change_25 : decode cX1_change 25 = .ok (.imul, 1) := by decide +kernel
theorem dX1_change_26 : decode cX1_change 26 = .ok (.iload_n 2, 1) := by decide +kernel
theorem dX1_change_27 : decode cX1_change 27 = .ok (.iadd, 1) := by decide +kernel
theorem dX1_change_28 : decode cX1_change 28 = .ok (.iload_n 3, 1) := by decide +kernel
theorem dX1_change_29 : decode cX1_change 29 = .ok (.iastore, 1) := by decide +kernel
theorem dX1_change_30 : decode cX1_change 30 = .ok (.aload_n 0, 1) := by decide +kernel
theorem dX1_change_31 : decode cX1_change 31 = .ok (.dup, 1) := by decide +kernel
theorem dX1_change_32 : decode cX1_change 32 = .ok (.getfield 22, 3) := by decide +kernel
theorem dX1_change_35 : decode cX1_change 35 = .ok (.iconst 1, 1) := by decide +kernel
theorem dX1_change_36 : decode cX1_change 36 = .ok (.iadd, 1) := by decide +kernel
theorem dX1_change_37 : decode cX1_change 37 = .ok (.putfield 22, 3) := by decide +kernel
theorem dX1_change_40 : decode cX1_change 40 = .ok (.return_, 1) := by decide +kernel
theorem dX1_addLine_0 : decode cX1_addLine 0 = .ok (.aload_n 0, 1) := by decide +kernel
theorem dX1_addLine_1 : decode cX1_addLine 1 = .ok (.getfield 15, 3) := by decide +kernel
theorem dX1_addLine_4 : decode cX1_addLine 4 = .ok (.bipush 20, 2) := by decide +kernel
theorem dX1_addLine_6 : decode cX1_addLine 6 = .ok (.if_icmp .lt 4, 3) := by decide +kernel
theorem dX1_addLine_9 : decode cX1_addLine 9 = .ok (.return_, 1) := by decide +kernel
theorem dX1_addLine_10 : decode cX1_addLine 10 = .ok (.aload_n 0, 1) := by decide +kernel
theorem dX1_addLine_11 : decode cX1_addLine 11 = .ok (.getfield 15, 3) := by decide +kernel
theorem dX1_addLine_14 : decode cX1_addLine 14 = .ok (.istore 5, 2) := by decide +kernel
theorem dX1_addLine_16 : decode cX1_addLine 16 = .ok (.aload_n 0, 1) := by decide +kernel
theorem dX1_addLine_17 : decode cX1_addLine 17 = .ok (.dup, 1) := by decide +kernel
theorem dX1_addLine_18 : decode cX1_addLine 18 = .ok (.getfield 15, 3) := by decide +kernel
theorem dX1_addLine_21 : decode cX1_addLine 21 = .ok (.iconst 1, 1) := by decide +kernel
theorem dX1_addLine_22 : decode cX1_addLine 22 = .ok (.iadd, 1) := by decide +kernel
theorem dX1_addLine_23 : decode cX1_addLine 23 = .ok (.putfield 15, 3) := by decide +kernel
theorem dX1_addLine_26 : decode cX1_addLine 26 = .ok (.aload_n 0, 1) := by decide +kernel
theorem dX1_addLine_27 : decode cX1_addLine 27 = .ok (.iload 5, 2) := by decide +kernel
theorem dX1_addLine_29 : decode cX1_addLine 29 = .ok (.iconst 0, 1) := by decide +kernel
theorem dX1_addLine_30 : decode cX1_addLine 30 = .ok (.iload_n 1, 1) := by decide +kernel
theorem dX1_addLine_31 : decode cX1_addLine 31 = .ok (.invokevirtual 29, 3) := by decide +kernel
theorem dX1_addLine_34 : decode cX1_addLine 34 = .ok (.aload_n 0, 1) := by decide +kernel
theorem dX1_addLine_35 : decode cX1_addLine 35 = .ok (.iload 5, 2) := by decide +kernel
theorem dX1_addLine_37 : decode cX1_addLine 37 = .ok (.iconst 1, 1) := by decide +kernel
theorem dX1_addLine_38 : decode cX1_addLine 38 = .ok (.iload_n 2, 1) := by decide +kernel
theorem dX1_addLine_39 : decode cX1_addLine 39 = .ok (.invokevirtual 29, 3) := by decide +kernel
theorem dX1_addLine_42 : decode cX1_addLine 42 = .ok (.aload_n 0, 1) := by decide +kernel
theorem dX1_addLine_43 : decode cX1_addLine 43 = .ok (.iload 5, 2) := by decide +kernel
theorem dX1_addLine_45 : decode cX1_addLine 45 = .ok (.iconst 2, 1) := by decide +kernel
theorem dX1_addLine_46 : decode cX1_addLine 46 = .ok (.iconst 0, 1) := by decide +kernel
theorem dX1_addLine_47 : decode cX1_addLine 47 = .ok (.invokevirtual 29, 3) := by decide +kernel
theorem dX1_addLine_50 : decode cX1_addLine 50 = .ok (.aload_n 0, 1) := by decide +kernel
theorem dX1_addLine_51 : decode cX1_addLine 51 = .ok (.iload 5, 2) := by decide +kernel
theorem dX1_addLine_53 : decode cX1_addLine 53 = .ok (.iconst 3, 1) := by decide +kernel
theorem dX1_addLine_54 : decode cX1_addLine 54 = .ok (.bipush 63, 2) := by decide +kernel
theorem dX1_addLine_56 : decode cX1_addLine 56 = .ok (.invokevirtual 29, 3) := by decide +kernel
theorem dX1_addLine_59 : decode cX1_addLine 59 = .ok (.aload_n 0, 1) := by decide +kernel
theorem dX1_addLine_60 : decode cX1_addLine 60 = .ok (.iload 5, 2) := by decide +kernel
theorem dX1_addLine_62 : decode cX1_addLine 62 = .ok (.iconst 4, 1) := by decide +kernel
theorem dX1_addLine_63 : decode cX1_addLine 63 = .ok (.iload_n 3, 1) := by decide +kernel
theorem dX1_addLine_64 : decode cX1_addLine 64 = .ok (.invokevirtual 29, 3) := by decide +kernel
theorem dX1_addLine_67 : decode cX1_addLine 67 = .ok (.aload_n 0, 1) := by decide +kernel
theorem dX1_addLine_68 : decode cX1_addLine 68 = .ok (.iload 5, 2) := by decide +kernel
theorem dX1_addLine_70 : decode cX1_addLine 70 = .ok (.iconst 5, 1) := by decide +kernel
theorem dX1_addLine_71 : decode cX1_addLine 71 = .ok (.iload 4, 2) := by decide +kernel
theorem dX1_addLine_73 : decode cX1_addLine 73 = .ok (.invokevirtual 29, 3) := by decide +kernel
theorem dX1_addLine_76 : decode cX1_addLine 76 = .ok (.return_, 1) := by decide +kernel
theorem dX1_drop_0 : decode cX1_drop 0 = .ok (.aload_n 0, 1) := by decide +kernel
theorem dX1_drop_1 : decode cX1_drop 1 = .ok (.iload_n 1, 1) := by decide +kernel
theorem dX1_drop_2 : decode cX1_drop 2 = .ok (.invokevirtual 25, 3) := by decide +kernel
theorem dX1_drop_5 : decode cX1_drop 5 = .ok (.ifCond .ne 4, 3) := by decide +kernel
theorem dX1_drop_8 : decode cX1_drop 8 = .ok (.return_, 1) := by decide +kernel
theorem dX1_drop_9 : decode cX1_drop 9 = .ok (.iload_n 1, 1) := by decide +kernel
theorem dX1_drop_10 : decode cX1_drop 10 = .ok (.iconst 1, 1) := by decide +kernel
theorem dX1_drop_11 : decode cX1_drop 11 = .ok (.iadd, 1) := by decide +kernel
theorem dX1_drop_12 : decode cX1_drop 12 = .ok (.bipush 6, 2) := by decide +kernel
theorem dX1_drop_14 : decode cX1_drop 14 = .ok (.imul, 1) := by decide +kernel
theorem dX1_drop_15 : decode cX1_drop 15 = .ok (.istore_n 2, 1) := by decide +kernel
theorem dX1_drop_16 : decode cX1_drop 16 = .ok (.aload_n 0, 1) := by decide +kernel
theorem dX1_drop_17 : decode cX1_drop 17 = .ok (.getfield 9, 3) := by decide +kernel
theorem dX1_drop_20 : decode cX1_drop 20 = .ok (.iload_n 2, 1) := by decide +kernel
theorem dX1_drop_21 : decode cX1_drop 21 = .ok (.aload_n 0, 1) := by decide +kernel
theorem dX1_drop_22 : decode cX1_drop 22 = .ok (.getfield 9, 3) := by decide +kernel
theorem dX1_drop_25 : decode cX1_drop 25 = .ok (.iload_n 1, 1) := by decide +kernel
theorem dX1_drop_26 : decode cX1_drop 26 = .ok (.bipush 6, 2) := by decide +kernel
theorem dX1_drop_28 : decode cX1_drop 28 = .ok (.imul, 1) := by decide +kernel
theorem dX1_drop_29 : decode cX1_drop 29 = .ok (.aload_n 0, 1) := by decide +kernel
theorem dX1_drop_30 : decode cX1_drop 30 = .ok (.getfield 15, 3) := by decide +kernel
theorem dX1_drop_33 : decode cX1_drop 33 = .ok (.bipush 6, 2) := by decide +kernel
theorem dX1_drop_35 : decode cX1_drop 35 = .ok (.imul, 1) := by decide +kernel
theorem dX1_drop_36 : decode cX1_drop 36 = .ok (.iload_n 2, 1) := by decide +kernel
theorem dX1_drop_37 : decode cX1_drop 37 = .ok (.isub, 1) := by decide +kernel
theorem dX1_drop_38 : decode cX1_drop 38 = .ok (.invokestatic 33, 3) := by decide +kernel
theorem dX1_drop_41 : decode cX1_drop 41 = .ok (.aload_n 0, 1) := by decide +kernel
theorem dX1_drop_42 : decode cX1_drop 42 = .ok (.dup, 1) := by decide +kernel
theorem dX1_drop_43 : decode cX1_drop 43 = .ok (.getfield 15, 3) := by decide +kernel
theorem dX1_drop_46 : decode cX1_drop 46 = .ok (.iconst 1, 1) := by decide +kernel
theorem dX1_drop_47 : decode cX1_drop 47 = .ok (.isub, 1) := by decide +kernel
theorem dX1_drop_48 : decode cX1_drop 48 = .ok (.putfield 15, 3) := by decide +kernel
theorem dX1_drop_51 : decode cX1_drop 51 = .ok (.aload_n 0, 1) := by decide +kernel
theorem dX1_drop_52 : decode cX1_drop 52 = .ok (.dup, 1) := by decide +kernel
theorem dX1_drop_53 : decode cX1_drop 53 = .ok (.getfield 22, 3) := by decide +kernel
theorem dX1_drop_56 : decode cX1_drop 56 = .ok (.iconst 1, 1) := by decide +kernel
theorem dX1_drop_57 : decode cX1_drop 57 = .ok (.iadd, 1) := by decide +kernel
theorem dX1_drop_58 : decode cX1_drop 58 = .ok (.putfield 22, 3) := by decide +kernel
theorem dX1_drop_61 : decode cX1_drop 61 = .ok (.return_, 1) := by decide +kernel
theorem dX1_moveTo_0 : decode cX1_moveTo 0 = .ok (.aload_n 0, 1) := by decide +kernel
theorem dX1_moveTo_1 : decode cX1_moveTo 1 = .ok (.iload_n 1, 1) := by decide +kernel
theorem dX1_moveTo_2 : decode cX1_moveTo 2 = .ok (.putfield 19, 3) := by decide +kernel
theorem dX1_moveTo_5 : decode cX1_moveTo 5 = .ok (.aload_n 0, 1) := by decide +kernel
theorem dX1_moveTo_6 : decode cX1_moveTo 6 = .ok (.dup, 1) := by decide +kernel
theorem dX1_moveTo_7 : decode cX1_moveTo 7 = .ok (.getfield 22, 3) := by decide +kernel
theorem dX1_moveTo_10 : decode cX1_moveTo 10 = .ok (.iconst 1, 1) := by decide +kernel
theorem dX1_moveTo_11 : decode cX1_moveTo 11 = .ok (.iadd, 1) := by decide +kernel
theorem dX1_moveTo_12 : decode cX1_moveTo 12 = .ok (.putfield 22, 3) := by decide +kernel
theorem dX1_moveTo_15 : decode cX1_moveTo 15 = .ok (.return_, 1) := by decide +kernel
theorem dX1_saveTo_0 : decode cX1_saveTo 0 = .ok (.iload_n 2, 1) := by decide +kernel
theorem dX1_saveTo_1 : decode cX1_saveTo 1 = .ok (.ifCond .lt 12, 3) := by decide +kernel
theorem dX1_saveTo_4 : decode cX1_saveTo 4 = .ok (.iload_n 2, 1) := by decide +kernel
theorem dX1_saveTo_5 : decode cX1_saveTo 5 = .ok (.aload_n 1, 1) := by decide +kernel
theorem dX1_saveTo_6 : decode cX1_saveTo 6 = .ok (.arraylength, 1) := by decide +kernel
theorem dX1_saveTo_7 : decode cX1_saveTo 7 = .ok (.bipush 122, 2) := by decide +kernel
theorem dX1_saveTo_9 : decode cX1_saveTo 9 = .ok (.isub, 1) := by decide +kernel
theorem dX1_saveTo_10 : decode cX1_saveTo 10 = .ok (.if_icmp .le 4, 3) := by decide +kernel
theorem dX1_saveTo_13 : decode cX1_saveTo 13 = .ok (.return_, 1) := by decide +kernel
theorem dX1_saveTo_14 : decode cX1_saveTo 14 = .ok (.aload_n 1, 1) := by decide +kernel
theorem dX1_saveTo_15 : decode cX1_saveTo 15 = .ok (.iload_n 2, 1) := by decide +kernel
theorem dX1_saveTo_16 : decode cX1_saveTo 16 = .ok (.aload_n 0, 1) := by decide +kernel
theorem dX1_saveTo_17 : decode cX1_saveTo 17 = .ok (.getfield 19, 3) := by decide +kernel
theorem dX1_saveTo_20 : decode cX1_saveTo 20 = .ok (.iastore, 1) := by decide +kernel
theorem dX1_saveTo_21 : decode cX1_saveTo 21 = .ok (.aload_n 1, 1) := by decide +kernel
theorem dX1_saveTo_22 : decode cX1_saveTo 22 = .ok (.iload_n 2, 1) := by decide +kernel
theorem dX1_saveTo_23 : decode cX1_saveTo 23 = .ok (.iconst 1, 1) := by decide +kernel
theorem dX1_saveTo_24 : decode cX1_saveTo 24 = .ok (.iadd, 1) := by decide +kernel
theorem dX1_saveTo_25 : decode cX1_saveTo 25 = .ok (.aload_n 0, 1) := by decide +kernel
theorem dX1_saveTo_26 : decode cX1_saveTo 26 = .ok (.getfield 15, 3) := by decide +kernel
theorem dX1_saveTo_29 : decode cX1_saveTo 29 = .ok (.iastore, 1) := by decide +kernel
theorem dX1_saveTo_30 : decode cX1_saveTo 30 = .ok (.aload_n 0, 1) := by decide +kernel
theorem dX1_saveTo_31 : decode cX1_saveTo 31 = .ok (.getfield 9, 3) := by decide +kernel
theorem dX1_saveTo_34 : decode cX1_saveTo 34 = .ok (.iconst 0, 1) := by decide +kernel
theorem dX1_saveTo_35 : decode cX1_saveTo 35 = .ok (.aload_n 1, 1) := by decide +kernel
theorem dX1_saveTo_36 : decode cX1_saveTo 36 = .ok (.iload_n 2, 1) := by decide +kernel
theorem dX1_saveTo_37 : decode cX1_saveTo 37 = .ok (.iconst 2, 1) := by decide +kernel
theorem dX1_saveTo_38 : decode cX1_saveTo 38 = .ok (.iadd, 1) := by decide +kernel
theorem dX1_saveTo_39 : decode cX1_saveTo 39 = .ok (.aload_n 0, 1) := by decide +kernel
theorem dX1_saveTo_40 : decode cX1_saveTo 40 = .ok (.getfield 9, 3) := by decide +kernel
theorem dX1_saveTo_43 : decode cX1_saveTo 43 = .ok (.arraylength, 1) := by decide +kernel
theorem dX1_saveTo_44 : decode cX1_saveTo 44 = .ok (.invokestatic 33, 3) := by decide +kernel
theorem dX1_saveTo_47 : decode cX1_saveTo 47 = .ok (.return_, 1) := by decide +kernel
theorem dX1_restoreFrom_0 : decode cX1_restoreFrom 0 = .ok (.iload_n 2, 1) := by decide +kernel
theorem dX1_restoreFrom_1 : decode cX1_restoreFrom 1 = .ok (.ifCond .lt 12, 3) := by decide +kernel
theorem dX1_restoreFrom_4 : decode cX1_restoreFrom 4 = .ok (.iload_n 2, 1) := by decide +kernel
theorem dX1_restoreFrom_5 : decode cX1_restoreFrom 5 = .ok (.aload_n 1, 1) := by decide +kernel
theorem dX1_restoreFrom_6 : decode cX1_restoreFrom 6 = .ok (.arraylength, 1) := by decide +kernel
theorem dX1_restoreFrom_7 : decode cX1_restoreFrom 7 = .ok (.bipush 122, 2) := by decide +kernel
theorem dX1_restoreFrom_9 : decode cX1_restoreFrom 9 = .ok (.isub, 1) := by decide +kernel
theorem dX1_restoreFrom_10 : decode cX1_restoreFrom 10 = .ok (.if_icmp .le 4, 3) := by decide +kernel
theorem dX1_restoreFrom_13 : decode cX1_restoreFrom 13 = .ok (.return_, 1) := by decide +kernel
theorem dX1_restoreFrom_14 : decode cX1_restoreFrom 14 = .ok (.aload_n 0, 1) := by decide +kernel
theorem dX1_restoreFrom_15 : decode cX1_restoreFrom 15 = .ok (.aload_n 1, 1) := by decide +kernel
theorem dX1_restoreFrom_16 : decode cX1_restoreFrom 16 = .ok (.iload_n 2, 1) := by decide +kernel
theorem dX1_restoreFrom_17 : decode cX1_restoreFrom 17 = .ok (.iaload, 1) := by decide +kernel
theorem dX1_restoreFrom_18 : decode cX1_restoreFrom 18 = .ok (.putfield 19, 3) := by decide +kernel
theorem dX1_restoreFrom_21 : decode cX1_restoreFrom 21 = .ok (.aload_n 0, 1) := by decide +kernel
theorem dX1_restoreFrom_22 : decode cX1_restoreFrom 22 = .ok (.aload_n 1, 1) := by decide +kernel
theorem dX1_restoreFrom_23 : decode cX1_restoreFrom 23 = .ok (.iload_n 2, 1) := by decide +kernel
theorem dX1_restoreFrom_24 : decode cX1_restoreFrom 24 = .ok (.iconst 1, 1) := by decide +kernel
theorem dX1_restoreFrom_25 : decode cX1_restoreFrom 25 = .ok (.iadd, 1) := by decide +kernel
theorem dX1_restoreFrom_26 : decode cX1_restoreFrom 26 = .ok (.iaload, 1) := by decide +kernel
theorem dX1_restoreFrom_27 : decode cX1_restoreFrom 27 = .ok (.putfield 15, 3) := by decide +kernel
theorem dX1_restoreFrom_30 : decode cX1_restoreFrom 30 = .ok (.aload_n 1, 1) := by decide +kernel
theorem dX1_restoreFrom_31 : decode cX1_restoreFrom 31 = .ok (.iload_n 2, 1) := by decide +kernel
theorem dX1_restoreFrom_32 : decode cX1_restoreFrom 32 = .ok (.iconst 2, 1) := by decide +kernel
theorem dX1_restoreFrom_33 : decode cX1_restoreFrom 33 = .ok (.iadd, 1) := by decide +kernel
theorem dX1_restoreFrom_34 : decode cX1_restoreFrom 34 = .ok (.aload_n 0, 1) := by decide +kernel
theorem dX1_restoreFrom_35 : decode cX1_restoreFrom 35 = .ok (.getfield 9, 3) := by decide +kernel
theorem dX1_restoreFrom_38 : decode cX1_restoreFrom 38 = .ok (.iconst 0, 1) := by decide +kernel
theorem dX1_restoreFrom_39 : decode cX1_restoreFrom 39 = .ok (.aload_n 0, 1) := by decide +kernel
theorem dX1_restoreFrom_40 : decode cX1_restoreFrom 40 = .ok (.getfield 9, 3) := by decide +kernel
theorem dX1_restoreFrom_43 : decode cX1_restoreFrom 43 = .ok (.arraylength, 1) := by decide +kernel
theorem dX1_restoreFrom_44 : decode cX1_restoreFrom 44 = .ok (.invokestatic 33, 3) := by decide +kernel
theorem dX1_restoreFrom_47 : decode cX1_restoreFrom 47 = .ok (.aload_n 0, 1) := by decide +kernel
theorem dX1_restoreFrom_48 : decode cX1_restoreFrom 48 = .ok (.dup, 1) := by decide +kernel
theorem dX1_restoreFrom_49 : decode cX1_restoreFrom 49 = .ok (.getfield 22, 3) := by decide +kernel
theorem dX1_restoreFrom_52 : decode cX1_restoreFrom 52 = .ok (.iconst 1, 1) := by decide +kernel
theorem dX1_restoreFrom_53 : decode cX1_restoreFrom 53 = .ok (.iadd, 1) := by decide +kernel
theorem dX1_restoreFrom_54 : decode cX1_restoreFrom 54 = .ok (.putfield 22, 3) := by decide +kernel
theorem dX1_restoreFrom_57 : decode cX1_restoreFrom 57 = .ok (.return_, 1) := by decide +kernel
theorem dX1_valueAt_0 : decode cX1_valueAt 0 = .ok (.iload_n 1, 1) := by decide +kernel
theorem dX1_valueAt_1 : decode cX1_valueAt 1 = .ok (.ifCond .lt 11, 3) := by decide +kernel
theorem dX1_valueAt_4 : decode cX1_valueAt 4 = .ok (.iload_n 1, 1) := by decide +kernel
theorem dX1_valueAt_5 : decode cX1_valueAt 5 = .ok (.aload_n 0, 1) := by decide +kernel
theorem dX1_valueAt_6 : decode cX1_valueAt 6 = .ok (.getfield 15, 3) := by decide +kernel
theorem dX1_valueAt_9 : decode cX1_valueAt 9 = .ok (.if_icmp .lt 5, 3) := by decide +kernel
theorem dX1_valueAt_12 : decode cX1_valueAt 12 = .ok (.iconst 0, 1) := by decide +kernel
theorem dX1_valueAt_13 : decode cX1_valueAt 13 = .ok (.ireturn, 1) := by decide +kernel
theorem dX1_valueAt_14 : decode cX1_valueAt 14 = .ok (.aload_n 0, 1) := by decide +kernel
theorem dX1_valueAt_15 : decode cX1_valueAt 15 = .ok (.getfield 9, 3) := by decide +kernel
theorem dX1_valueAt_18 : decode cX1_valueAt 18 = .ok (.iload_n 1, 1) := by decide +kernel
theorem dX1_valueAt_19 : decode cX1_valueAt 19 = .ok (.bipush 6, 2) := by decide +kernel
theorem dX1_valueAt_21 : decode cX1_valueAt 21 = .ok (.imul, 1) := by decide +kernel
theorem dX1_valueAt_22 : decode cX1_valueAt 22 = .ok (.iconst 0, 1) := by decide +kernel
theorem dX1_valueAt_23 : decode cX1_valueAt 23 = .ok (.iadd, 1) := by decide +kernel
theorem dX1_valueAt_24 : decode cX1_valueAt 24 = .ok (.iaload, 1) := by decide +kernel
theorem dX1_valueAt_25 : decode cX1_valueAt 25 = .ok (.iload_n 2, 1) := by decide +kernel
theorem dX1_valueAt_26 : decode cX1_valueAt 26 = .ok (.imul, 1) := by decide +kernel
theorem dX1_valueAt_27 : decode cX1_valueAt 27 = .ok (.aload_n 0, 1) := by decide +kernel
theorem dX1_valueAt_28 : decode cX1_valueAt 28 = .ok (.getfield 9, 3) := by decide +kernel
theorem dX1_valueAt_31 : decode cX1_valueAt 31 = .ok (.iload_n 1, 1) := by decide +kernel
theorem dX1_valueAt_32 : decode cX1_valueAt 32 = .ok (.bipush 6, 2) := by decide +kernel
theorem dX1_valueAt_34 : decode cX1_valueAt 34 = .ok (.imul, 1) := by decide +kernel
theorem dX1_valueAt_35 : decode cX1_valueAt 35 = .ok (.iconst 1, 1) := by decide +kernel
theorem dX1_valueAt_36 : decode cX1_valueAt 36 = .ok (.iadd, 1) := by decide +kernel
theorem dX1_valueAt_37 : decode cX1_valueAt 37 = .ok (.iaload, 1) := by decide +kernel
theorem dX1_valueAt_38 : decode cX1_valueAt 38 = .ok (.iadd, 1) := by decide +kernel
theorem dX1_valueAt_39 : decode cX1_valueAt 39 = .ok (.ireturn, 1) := by decide +kernel
theorem dX1_lives_0 : decode cX1_lives 0 = .ok (.aload_n 0, 1) := by decide +kernel
theorem dX1_lives_1 : decode cX1_lives 1 = .ok (.iload_n 1, 1) := by decide +kernel
theorem dX1_lives_2 : decode cX1_lives 2 = .ok (.iconst 4, 1) := by decide +kernel
theorem dX1_lives_3 : decode cX1_lives 3 = .ok (.invokevirtual 39, 3) := by decide +kernel
theorem dX1_lives_6 : decode cX1_lives 6 = .ok (.iload_n 2, 1) := by decide +kernel
theorem dX1_lives_7 : decode cX1_lives 7 = .ok (.if_icmp .gt 17, 3) := by decide +kernel
theorem dX1_lives_10 : decode cX1_lives 10 = .ok (.iload_n 2, 1) := by decide +kernel
theorem dX1_lives_11 : decode cX1_lives 11 = .ok (.aload_n 0, 1) := by decide +kernel
theorem dX1_lives_12 : decode cX1_lives 12 = .ok (.iload_n 1, 1) := by decide +kernel
theorem dX1_lives_13 : decode cX1_lives 13 = .ok (.iconst 5, 1) := by decide +kernel
theorem dX1_lives_14 : decode cX1_lives 14 = .ok (.invokevirtual 39, 3) := by decide +kernel
theorem dX1_lives_17 : decode cX1_lives 17 = .ok (.if_icmp .gt 7, 3) := by decide +kernel
theorem dX1_lives_20 : decode cX1_lives 20 = .ok (.iconst 1, 1) := by decide +kernel
theorem dX1_lives_21 : decode cX1_lives 21 = .ok (.goto 4, 3) := by decide +kernel
theorem dX1_lives_24 : decode cX1_lives 24 = .ok (.iconst 0, 1) := by decide +kernel
theorem dX1_lives_25 : decode cX1_lives 25 = .ok (.ireturn, 1) := by decide +kernel
theorem dX1_counts_0 : decode cX1_counts 0 = .ok (.iload_n 1, 1) := by decide +kernel
theorem dX1_counts_1 : decode cX1_counts 1 = .ok (.ifCond .lt 11, 3) := by decide +kernel
theorem dX1_counts_4 : decode cX1_counts 4 = .ok (.iload_n 1, 1) := by decide +kernel
theorem dX1_counts_5 : decode cX1_counts 5 = .ok (.aload_n 0, 1) := by decide +kernel
theorem dX1_counts_6 : decode cX1_counts 6 = .ok (.getfield 15, 3) := by decide +kernel
theorem dX1_counts_9 : decode cX1_counts 9 = .ok (.if_icmp .lt 5, 3) := by decide +kernel
theorem dX1_counts_12 : decode cX1_counts 12 = .ok (.iconst 0, 1) := by decide +kernel
theorem dX1_counts_13 : decode cX1_counts 13 = .ok (.ireturn, 1) := by decide +kernel
theorem dX1_counts_14 : decode cX1_counts 14 = .ok (.iload_n 1, 1) := by decide +kernel
theorem dX1_counts_15 : decode cX1_counts 15 = .ok (.bipush 6, 2) := by decide +kernel
theorem dX1_counts_17 : decode cX1_counts 17 = .ok (.imul, 1) := by decide +kernel
theorem dX1_counts_18 : decode cX1_counts 18 = .ok (.istore 4, 2) := by decide +kernel
theorem dX1_counts_20 : decode cX1_counts 20 = .ok (.aload_n 0, 1) := by decide +kernel
theorem dX1_counts_21 : decode cX1_counts 21 = .ok (.getfield 9, 3) := by decide +kernel
theorem dX1_counts_24 : decode cX1_counts 24 = .ok (.iload 4, 2) := by decide +kernel
theorem dX1_counts_26 : decode cX1_counts 26 = .ok (.iconst 2, 1) := by decide +kernel
theorem dX1_counts_27 : decode cX1_counts 27 = .ok (.iadd, 1) := by decide +kernel
theorem dX1_counts_28 : decode cX1_counts 28 = .ok (.iaload, 1) := by decide +kernel
theorem dX1_counts_29 : decode cX1_counts 29 = .ok (.iload_n 2, 1) := by decide +kernel
theorem dX1_counts_30 : decode cX1_counts 30 = .ok (.if_icmp .gt 46, 3) := by decide +kernel
theorem dX1_counts_33 : decode cX1_counts 33 = .ok (.iload_n 2, 1) := by decide +kernel
theorem dX1_counts_34 : decode cX1_counts 34 = .ok (.aload_n 0, 1) := by decide +kernel
theorem dX1_counts_35 : decode cX1_counts 35 = .ok (.getfield 9, 3) := by decide +kernel
theorem dX1_counts_38 : decode cX1_counts 38 = .ok (.iload 4, 2) := by decide +kernel
theorem dX1_counts_40 : decode cX1_counts 40 = .ok (.iconst 3, 1) := by decide +kernel
theorem dX1_counts_41 : decode cX1_counts 41 = .ok (.iadd, 1) := by decide +kernel
theorem dX1_counts_42 : decode cX1_counts 42 = .ok (.iaload, 1) := by decide +kernel
theorem dX1_counts_43 : decode cX1_counts 43 = .ok (.if_icmp .gt 33, 3) := by decide +kernel
theorem dX1_counts_46 : decode cX1_counts 46 = .ok (.aload_n 0, 1) := by decide +kernel
theorem dX1_counts_47 : decode cX1_counts 47 = .ok (.getfield 9, 3) := by decide +kernel
theorem dX1_counts_50 : decode cX1_counts 50 = .ok (.iload 4, 2) := by decide +kernel
theorem dX1_counts_52 : decode cX1_counts 52 = .ok (.iconst 4, 1) := by decide +kernel
theorem dX1_counts_53 : decode cX1_counts 53 = .ok (.iadd, 1) := by decide +kernel
theorem dX1_counts_54 : decode cX1_counts 54 = .ok (.iaload, 1) := by decide +kernel
theorem dX1_counts_55 : decode cX1_counts 55 = .ok (.iload_n 3, 1) := by decide +kernel
theorem dX1_counts_56 : decode cX1_counts 56 = .ok (.if_icmp .gt 20, 3) := by decide +kernel
theorem dX1_counts_59 : decode cX1_counts 59 = .ok (.iload_n 3, 1) := by decide +kernel
theorem dX1_counts_60 : decode cX1_counts 60 = .ok (.aload_n 0, 1) := by decide +kernel
theorem dX1_counts_61 : decode cX1_counts 61 = .ok (.getfield 9, 3) := by decide +kernel
theorem dX1_counts_64 : decode cX1_counts 64 = .ok (.iload 4, 2) := by decide +kernel
theorem dX1_counts_66 : decode cX1_counts 66 = .ok (.iconst 5, 1) := by decide +kernel
theorem dX1_counts_67 : decode cX1_counts 67 = .ok (.iadd, 1) := by decide +kernel
theorem dX1_counts_68 : decode cX1_counts 68 = .ok (.iaload, 1) := by decide +kernel
theorem dX1_counts_69 : decode cX1_counts 69 = .ok (.if_icmp .gt 7, 3) := by decide +kernel
theorem dX1_counts_72 : decode cX1_counts 72 = .ok (.iconst 1, 1) := by decide +kernel
theorem dX1_counts_73 : decode cX1_counts 73 = .ok (.goto 4, 3) := by decide +kernel
theorem dX1_counts_76 : decode cX1_counts 76 = .ok (.iconst 0, 1) := by decide +kernel
theorem dX1_counts_77 : decode cX1_counts 77 = .ok (.ireturn, 1) := by decide +kernel
theorem dX1_living_0 : decode cX1_living 0 = .ok (.iconst 0, 1) := by decide +kernel
theorem dX1_living_1 : decode cX1_living 1 = .ok (.istore_n 1, 1) := by decide +kernel
theorem dX1_living_2 : decode cX1_living 2 = .ok (.iconst 0, 1) := by decide +kernel
theorem dX1_living_3 : decode cX1_living 3 = .ok (.istore_n 2, 1) := by decide +kernel
theorem dX1_living_4 : decode cX1_living 4 = .ok (.iload_n 2, 1) := by decide +kernel
theorem dX1_living_5 : decode cX1_living 5 = .ok (.aload_n 0, 1) := by decide +kernel
theorem dX1_living_6 : decode cX1_living 6 = .ok (.getfield 15, 3) := by decide +kernel
theorem dX1_living_9 : decode cX1_living 9 = .ok (.if_icmp .ge 24, 3) := by decide +kernel
theorem dX1_living_12 : decode cX1_living 12 = .ok (.aload_n 0, 1) := by decide +kernel
theorem dX1_living_13 : decode cX1_living 13 = .ok (.iload_n 2, 1) := by decide +kernel
theorem dX1_living_14 : decode cX1_living 14 = .ok (.aload_n 0, 1) := by decide +kernel
theorem dX1_living_15 : decode cX1_living 15 = .ok (.getfield 19, 3) := by decide +kernel
theorem dX1_living_18 : decode cX1_living 18 = .ok (.invokevirtual 43, 3) := by decide +kernel
theorem dX1_living_21 : decode cX1_living 21 = .ok (.ifCond .eq 6, 3) := by decide +kernel
theorem dX1_living_24 : decode cX1_living 24 = .ok (.iinc 1 1, 3) := by decide +kernel
theorem dX1_living_27 : decode cX1_living 27 = .ok (.iinc 2 1, 3) := by decide +kernel
theorem dX1_living_30 : decode cX1_living 30 = .ok (.goto (-26), 3) := by decide +kernel
theorem dX1_living_33 : decode cX1_living 33 = .ok (.iload_n 1, 1) := by decide +kernel
theorem dX1_living_34 : decode cX1_living 34 = .ok (.ireturn, 1) := by decide +kernel
theorem dX1_livesChangeAt_0 : decode cX1_livesChangeAt 0 = .ok (.iconst 0, 1) := by decide +kernel
theorem dX1_livesChangeAt_1 : decode cX1_livesChangeAt 1 = .ok (.istore_n 2, 1) := by decide +kernel
theorem dX1_livesChangeAt_2 : decode cX1_livesChangeAt 2 = .ok (.iload_n 2, 1) := by decide +kernel
theorem dX1_livesChangeAt_3 : decode cX1_livesChangeAt 3 = .ok (.aload_n 0, 1) := by decide +kernel
theorem dX1_livesChangeAt_4 : decode cX1_livesChangeAt 4 = .ok (.getfield 15, 3) := by decide +kernel
theorem dX1_livesChangeAt_7 : decode cX1_livesChangeAt 7 = .ok (.if_icmp .ge 28, 3) := by decide +kernel
theorem dX1_livesChangeAt_10 : decode cX1_livesChangeAt 10 = .ok (.aload_n 0, 1) := by decide +kernel
theorem dX1_livesChangeAt_11 : decode cX1_livesChangeAt 11 = .ok (.iload_n 2, 1) := by decide +kernel
theorem dX1_livesChangeAt_12 : decode cX1_livesChangeAt 12 = .ok (.iload_n 1, 1) := by decide +kernel
theorem dX1_livesChangeAt_13 : decode cX1_livesChangeAt 13 = .ok (.invokevirtual 43, 3) := by decide +kernel
theorem dX1_livesChangeAt_16 : decode cX1_livesChangeAt 16 = .ok (.aload_n 0, 1) := by decide +kernel
theorem dX1_livesChangeAt_17 : decode cX1_livesChangeAt 17 = .ok (.iload_n 2, 1) := by decide +kernel
theorem dX1_livesChangeAt_18 : decode cX1_livesChangeAt 18 = .ok (.iload_n 1, 1) := by decide +kernel
theorem dX1_livesChangeAt_19 : decode cX1_livesChangeAt 19 = .ok (.iconst 1, 1) := by decide +kernel
theorem dX1_livesChangeAt_20 : decode cX1_livesChangeAt 20 = .ok (.isub, 1) := by decide +kernel
theorem dX1_livesChangeAt_21 : decode cX1_livesChangeAt 21 = .ok (.invokevirtual 43, 3) := by decide +kernel
theorem dX1_livesChangeAt_24 : decode cX1_livesChangeAt 24 = .ok (.if_icmp .eq 5, 3) := by decide +kernel
theorem dX1_livesChangeAt_27 : decode cX1_livesChangeAt 27 = .ok (.iconst 1, 1) := by decide +kernel
theorem dX1_livesChangeAt_28 : decode cX1_livesChangeAt 28 = .ok (.ireturn, 1) := by decide +kernel
theorem dX1_livesChangeAt_29 : decode cX1_livesChangeAt 29 = .ok (.iinc 2 1, 3) := by decide +kernel
theorem dX1_livesChangeAt_32 : decode cX1_livesChangeAt 32 = .ok (.goto (-30), 3) := by decide +kernel
theorem dX1_livesChangeAt_35 : decode cX1_livesChangeAt 35 = .ok (.iconst 0, 1) := by decide +kernel
theorem dX1_livesChangeAt_36 : decode cX1_livesChangeAt 36 = .ok (.ireturn, 1) := by decide +kernel
theorem dX1_isLower_0 : decode cX1_isLower 0 = .ok (.aload_n 0, 1) := by decide +kernel
theorem dX1_isLower_1 : decode cX1_isLower 1 = .ok (.iload_n 1, 1) := by decide +kernel
theorem dX1_isLower_2 : decode cX1_isLower 2 = .ok (.iload_n 3, 1) := by decide +kernel
theorem dX1_isLower_3 : decode cX1_isLower 3 = .ok (.invokevirtual 47, 3) := by decide +kernel
theorem dX1_isLower_6 : decode cX1_isLower 6 = .ok (.aload_n 0, 1) := by decide +kernel
theorem dX1_isLower_7 : decode cX1_isLower 7 = .ok (.iload_n 2, 1) := by decide +kernel
theorem dX1_isLower_8 : decode cX1_isLower 8 = .ok (.iload_n 3, 1) := by decide +kernel
theorem dX1_isLower_9 : decode cX1_isLower 9 = .ok (.invokevirtual 47, 3) := by decide +kernel
theorem dX1_isLower_12 : decode cX1_isLower 12 = .ok (.isub, 1) := by decide +kernel
theorem dX1_isLower_13 : decode cX1_isLower 13 = .ok (.istore 4, 2) := by decide +kernel
theorem dX1_isLower_15 : decode cX1_isLower 15 = .ok (.iload 4, 2) := by decide +kernel
theorem dX1_isLower_17 : decode cX1_isLower 17 = .ok (.ifCond .lt 13, 3) := by decide +kernel
theorem dX1_isLower_20 : decode cX1_isLower 20 = .ok (.iload 4, 2) := by decide +kernel
theorem dX1_isLower_22 : decode cX1_isLower 22 = .ok (.ifCond .ne 12, 3) := by decide +kernel
theorem dX1_isLower_25 : decode cX1_isLower 25 = .ok (.iload_n 1, 1) := by decide +kernel
theorem dX1_isLower_26 : decode cX1_isLower 26 = .ok (.iload_n 2, 1) := by decide +kernel
theorem dX1_isLower_27 : decode cX1_isLower 27 = .ok (.if_icmp .ge 7, 3) := by decide +kernel
theorem dX1_isLower_30 : decode cX1_isLower 30 = .ok (.iconst 1, 1) := by decide +kernel
theorem dX1_isLower_31 : decode cX1_isLower 31 = .ok (.goto 4, 3) := by decide +kernel
theorem dX1_isLower_34 : decode cX1_isLower 34 = .ok (.iconst 0, 1) := by decide +kernel
theorem dX1_isLower_35 : decode cX1_isLower 35 = .ok (.ireturn, 1) := by decide +kernel
theorem dX1_rankOf_0 : decode cX1_rankOf 0 = .ok (.iconst 0, 1) := by decide +kernel
theorem dX1_rankOf_1 : decode cX1_rankOf 1 = .ok (.istore_n 3, 1) := by decide +kernel
theorem dX1_rankOf_2 : decode cX1_rankOf 2 = .ok (.iconst 0, 1) := by decide +kernel
theorem dX1_rankOf_3 : decode cX1_rankOf 3 = .ok (.istore 4, 2) := by decide +kernel
theorem dX1_rankOf_5 : decode cX1_rankOf 5 = .ok (.iload 4, 2) := by decide +kernel
theorem dX1_rankOf_7 : decode cX1_rankOf 7 = .ok (.aload_n 0, 1) := by decide +kernel
theorem dX1_rankOf_8 : decode cX1_rankOf 8 = .ok (.getfield 15, 3) := by decide +kernel
theorem dX1_rankOf_11 : decode cX1_rankOf 11 = .ok (.if_icmp .ge 37, 3) := by decide +kernel
theorem dX1_rankOf_14 : decode cX1_rankOf 14 = .ok (.aload_n 0, 1) := by decide +kernel
theorem dX1_rankOf_15 : decode cX1_rankOf 15 = .ok (.iload 4, 2) := by decide +kernel
theorem dX1_rankOf_17 : decode cX1_rankOf 17 = .ok (.iload_n 2, 1) := by decide +kernel
theorem dX1_rankOf_18 : decode cX1_rankOf 18 = .ok (.aload_n 0, 1) := by decide +kernel
theorem dX1_rankOf_19 : decode cX1_rankOf 19 = .ok (.getfield 19, 3) := by decide +kernel
theorem dX1_rankOf_22 : decode cX1_rankOf 22 = .ok (.invokevirtual 50, 3) := by decide +kernel
theorem dX1_rankOf_25 : decode cX1_rankOf 25 = .ok (.ifCond .eq 17, 3) := by decide +kernel
theorem dX1_rankOf_28 : decode cX1_rankOf 28 = .ok (.aload_n 0, 1) := by decide +kernel
theorem dX1_rankOf_29 : decode cX1_rankOf 29 = .ok (.iload 4, 2) := by decide +kernel
theorem dX1_rankOf_31 : decode cX1_rankOf 31 = .ok (.iload_n 1, 1) := by decide +kernel
theorem dX1_rankOf_32 : decode cX1_rankOf 32 = .ok (.iload_n 2, 1) := by decide +kernel
theorem dX1_rankOf_33 : decode cX1_rankOf 33 = .ok (.invokevirtual 54, 3) := by decide +kernel
theorem dX1_rankOf_36 : decode cX1_rankOf 36 = .ok (.ifCond .eq 6, 3) := by decide +kernel
theorem dX1_rankOf_39 : decode cX1_rankOf 39 = .ok (.iinc 3 1, 3) := by decide +kernel
theorem dX1_rankOf_42 : decode cX1_rankOf 42 = .ok (.iinc 4 1, 3) := by decide +kernel
theorem dX1_rankOf_45 : decode cX1_rankOf 45 = .ok (.goto (-40), 3) := by decide +kernel
theorem dX1_rankOf_48 : decode cX1_rankOf 48 = .ok (.iload_n 3, 1) := by decide +kernel
theorem dX1_rankOf_49 : decode cX1_rankOf 49 = .ok (.ireturn, 1) := by decide +kernel
theorem dX1_lowestBut_0 : decode cX1_lowestBut 0 = .ok (.iconst (-1), 1) := by decide +kernel
theorem dX1_lowestBut_1 : decode cX1_lowestBut 1 = .ok (.istore 4, 2) := by decide +kernel
theorem dX1_lowestBut_3 : decode cX1_lowestBut 3 = .ok (.iconst 0, 1) := by decide +kernel
theorem dX1_lowestBut_4 : decode cX1_lowestBut 4 = .ok (.istore 5, 2) := by decide +kernel
theorem dX1_lowestBut_6 : decode cX1_lowestBut 6 = .ok (.iconst 0, 1) := by decide +kernel
theorem dX1_lowestBut_7 : decode cX1_lowestBut 7 = .ok (.istore 6, 2) := by decide +kernel
theorem dX1_lowestBut_9 : decode cX1_lowestBut 9 = .ok (.iload 6, 2) := by decide +kernel
theorem dX1_lowestBut_11 : decode cX1_lowestBut 11 = .ok (.aload_n 0, 1) := by decide +kernel
theorem dX1_lowestBut_12 : decode cX1_lowestBut 12 = .ok (.getfield 15, 3) := by decide +kernel
theorem dX1_lowestBut_15 : decode cX1_lowestBut 15 = .ok (.if_icmp .ge 56, 3) := by decide +kernel
theorem dX1_lowestBut_18 : decode cX1_lowestBut 18 = .ok (.iload 6, 2) := by decide +kernel
theorem dX1_lowestBut_20 : decode cX1_lowestBut 20 = .ok (.iload_n 1, 1) := by decide +kernel
theorem dX1_lowestBut_21 : decode cX1_lowestBut 21 = .ok (.if_icmp .eq 44, 3) := by decide +kernel
theorem dX1_lowestBut_24 : decode cX1_lowestBut 24 = .ok (.aload_n 0, 1) := by decide +kernel
theorem dX1_lowestBut_25 : decode cX1_lowestBut 25 = .ok (.iload 6, 2) := by decide +kernel
theorem dX1_lowestBut_27 : decode cX1_lowestBut 27 = .ok (.iload_n 2, 1) := by decide +kernel
theorem dX1_lowestBut_28 : decode cX1_lowestBut 28 = .ok (.iload_n 3, 1) := by decide +kernel
theorem dX1_lowestBut_29 : decode cX1_lowestBut 29 = .ok (.invokevirtual 50, 3) := by decide +kernel
theorem dX1_lowestBut_32 : decode cX1_lowestBut 32 = .ok (.ifCond .eq 33, 3) := by decide +kernel
theorem dX1_lowestBut_35 : decode cX1_lowestBut 35 = .ok (.aload_n 0, 1) := by decide +kernel
theorem dX1_lowestBut_36 : decode cX1_lowestBut 36 = .ok (.iload 6, 2) := by decide +kernel
theorem dX1_lowestBut_38 : decode cX1_lowestBut 38 = .ok (.iload_n 2, 1) := by decide +kernel
theorem dX1_lowestBut_39 : decode cX1_lowestBut 39 = .ok (.invokevirtual 47, 3) := by decide +kernel
theorem dX1_lowestBut_42 : decode cX1_lowestBut 42 = .ok (.istore 7, 2) := by decide +kernel
theorem dX1_lowestBut_44 : decode cX1_lowestBut 44 = .ok (.iload 4, 2) := by decide +kernel
theorem dX1_lowestBut_46 : decode cX1_lowestBut 46 = .ok (.iconst (-1), 1) := by decide +kernel
theorem dX1_lowestBut_47 : decode cX1_lowestBut 47 = .ok (.if_icmp .eq 10, 3) := by decide +kernel
theorem dX1_lowestBut_50 : decode cX1_lowestBut 50 = .ok (.iload 7, 2) := by decide +kernel
theorem dX1_lowestBut_52 : decode cX1_lowestBut 52 = .ok (.iload 5, 2) := by decide +kernel
theorem dX1_lowestBut_54 : decode cX1_lowestBut 54 = .ok (.if_icmp .ge 11, 3) := by decide +kernel
theorem dX1_lowestBut_57 : decode cX1_lowestBut 57 = .ok (.iload 6, 2) := by decide +kernel
theorem dX1_lowestBut_59 : decode cX1_lowestBut 59 = .ok (.istore 4, 2) := by decide +kernel
theorem dX1_lowestBut_61 : decode cX1_lowestBut 61 = .ok (.iload 7, 2) := by decide +kernel
theorem dX1_lowestBut_63 : decode cX1_lowestBut 63 = .ok (.istore 5, 2) := by decide +kernel
theorem dX1_lowestBut_65 : decode cX1_lowestBut 65 = .ok (.iinc 6 1, 3) := by decide +kernel
theorem dX1_lowestBut_68 : decode cX1_lowestBut 68 = .ok (.goto (-59), 3) := by decide +kernel
theorem dX1_lowestBut_71 : decode cX1_lowestBut 71 = .ok (.iload 4, 2) := by decide +kernel
theorem dX1_lowestBut_73 : decode cX1_lowestBut 73 = .ok (.ireturn, 1) := by decide +kernel
theorem dX2_init_0 : decode cX2_init 0 = .ok (.aload_n 0, 1) := by decide +kernel
theorem dX2_init_1 : decode cX2_init 1 = .ok (.invokespecial 3, 3) := by decide +kernel
theorem dX2_init_4 : decode cX2_init 4 = .ok (.aload_n 0, 1) := by decide +kernel
theorem dX2_init_5 : decode cX2_init 5 = .ok (.bipush 64, 2) := by decide +kernel
theorem dX2_init_7 : decode cX2_init 7 = .ok (.newarray .int, 2) := by decide +kernel
theorem dX2_init_9 : decode cX2_init 9 = .ok (.putfield 9, 3) := by decide +kernel
theorem dX2_init_12 : decode cX2_init 12 = .ok (.aload_n 0, 1) := by decide +kernel
theorem dX2_init_13 : decode cX2_init 13 = .ok (.bipush 65, 2) := by decide +kernel
theorem dX2_init_15 : decode cX2_init 15 = .ok (.newarray .int, 2) := by decide +kernel
theorem dX2_init_17 : decode cX2_init 17 = .ok (.putfield 15, 3) := by decide +kernel
theorem dX2_init_20 : decode cX2_init 20 = .ok (.aload_n 0, 1) := by decide +kernel
theorem dX2_init_21 : decode cX2_init 21 = .ok (.iconst 0, 1) := by decide +kernel
theorem dX2_init_22 : decode cX2_init 22 = .ok (.putfield 18, 3) := by decide +kernel
theorem dX2_init_25 : decode cX2_init 25 = .ok (.aload_n 0, 1) := by decide +kernel
theorem dX2_init_26 : decode cX2_init 26 = .ok (.iconst (-1), 1) := by decide +kernel
theorem dX2_init_27 : decode cX2_init 27 = .ok (.putfield 22, 3) := by decide +kernel
theorem dX2_init_30 : decode cX2_init 30 = .ok (.aload_n 0, 1) := by decide +kernel
theorem dX2_init_31 : decode cX2_init 31 = .ok (.aload_n 1, 1) := by decide +kernel
theorem dX2_init_32 : decode cX2_init 32 = .ok (.putfield 25, 3) := by decide +kernel
theorem dX2_init_35 : decode cX2_init 35 = .ok (.return_, 1) := by decide +kernel
theorem dX2_lineAt_0 : decode cX2_lineAt 0 = .ok (.aload_n 0, 1) := by decide +kernel
theorem dX2_lineAt_1 : decode cX2_lineAt 1 = .ok (.invokevirtual 29, 3) := by decide +kernel
theorem dX2_lineAt_4 : decode cX2_lineAt 4 = .ok (.iload_n 1, 1) := by decide +kernel
theorem dX2_lineAt_5 : decode cX2_lineAt 5 = .ok (.ifCond .lt 9, 3) := by decide +kernel
theorem dX2_lineAt_8 : decode cX2_lineAt 8 = .ok (.iload_n 1, 1) := by decide +kernel
theorem dX2_lineAt_9 : decode cX2_lineAt 9 = .ok (.bipush 64, 2) := by decide +kernel
theorem dX2_lineAt_11 : decode cX2_lineAt 11 = .ok (.if_icmp .lt 7, 3) := by decide +kernel
theorem dX2_lineAt_14 : decode cX2_lineAt 14 = .ok (.iconst (-1), 1) := by decide +kernel
theorem dX2_lineAt_15 : decode cX2_lineAt 15 = .ok (.goto 9, 3) := by decide +kernel
theorem dX2_lineAt_18 : decode cX2_lineAt 18 = .ok (.aload_n 0, 1) := by decide +kernel
theorem dX2_lineAt_19 : decode cX2_lineAt 19 = .ok (.getfield 9, 3) := by decide +kernel
theorem dX2_lineAt_22 : decode cX2_lineAt 22 = .ok (.iload_n 1, 1) := by decide +kernel
theorem dX2_lineAt_23 : decode cX2_lineAt 23 = .ok (.iaload, 1) := by decide +kernel
theorem dX2_lineAt_24 : decode cX2_lineAt 24 = .ok (.ireturn, 1) := by decide +kernel
theorem dX2_placesOf_0 : decode cX2_placesOf 0 = .ok (.aload_n 0, 1) := by decide +kernel
theorem dX2_placesOf_1 : decode cX2_placesOf 1 = .ok (.invokevirtual 29, 3) := by decide +kernel
theorem dX2_placesOf_4 : decode cX2_placesOf 4 = .ok (.iconst 0, 1) := by decide +kernel
theorem dX2_placesOf_5 : decode cX2_placesOf 5 = .ok (.istore_n 2, 1) := by decide +kernel
theorem dX2_placesOf_6 : decode cX2_placesOf 6 = .ok (.iconst 0, 1) := by decide +kernel
theorem dX2_placesOf_7 : decode cX2_placesOf 7 = .ok (.istore_n 3, 1) := by decide +kernel
theorem dX2_placesOf_8 : decode cX2_placesOf 8 = .ok (.iload_n 3, 1) := by decide +kernel
theorem dX2_placesOf_9 : decode cX2_placesOf 9 = .ok (.bipush 64, 2) := by decide +kernel
theorem dX2_placesOf_11 : decode cX2_placesOf 11 = .ok (.if_icmp .ge 22, 3) := by decide +kernel
theorem dX2_placesOf_14 : decode cX2_placesOf 14 = .ok (.aload_n 0, 1) := by decide +kernel
theorem dX2_placesOf_15 : decode cX2_placesOf 15 = .ok (.getfield 9, 3) := by decide +kernel
theorem dX2_placesOf_18 : decode cX2_placesOf 18 = .ok (.iload_n 3, 1) := by decide +kernel
theorem dX2_placesOf_19 : decode cX2_placesOf 19 = .ok (.iaload, 1) := by decide +kernel
theorem dX2_placesOf_20 : decode cX2_placesOf 20 = .ok (.iload_n 1, 1) := by decide +kernel
theorem dX2_placesOf_21 : decode cX2_placesOf 21 = .ok (.if_icmp .ne 6, 3) := by decide +kernel
theorem dX2_placesOf_24 : decode cX2_placesOf 24 = .ok (.iinc 2 1, 3) := by decide +kernel
theorem dX2_placesOf_27 : decode cX2_placesOf 27 = .ok (.iinc 3 1, 3) := by decide +kernel
theorem dX2_placesOf_30 : decode cX2_placesOf 30 = .ok (.goto (-22), 3) := by decide +kernel
theorem dX2_placesOf_33 : decode cX2_placesOf 33 = .ok (.iload_n 2, 1) := by decide +kernel
theorem dX2_placesOf_34 : decode cX2_placesOf 34 = .ok (.ireturn, 1) := by decide +kernel
theorem dX2_rowCount_0 : decode cX2_rowCount 0 = .ok (.aload_n 0, 1) := by decide +kernel
theorem dX2_rowCount_1 : decode cX2_rowCount 1 = .ok (.invokevirtual 29, 3) := by decide +kernel
theorem dX2_rowCount_4 : decode cX2_rowCount 4 = .ok (.aload_n 0, 1) := by decide +kernel
theorem dX2_rowCount_5 : decode cX2_rowCount 5 = .ok (.getfield 18, 3) := by decide +kernel
theorem dX2_rowCount_8 : decode cX2_rowCount 8 = .ok (.ireturn, 1) := by decide +kernel
theorem dX2_rowStart_0 : decode cX2_rowStart 0 = .ok (.aload_n 0, 1) := by decide +kernel
theorem dX2_rowStart_1 : decode cX2_rowStart 1 = .ok (.invokevirtual 29, 3) := by decide +kernel
theorem dX2_rowStart_4 : decode cX2_rowStart 4 = .ok (.iload_n 1, 1) := by decide +kernel
theorem dX2_rowStart_5 : decode cX2_rowStart 5 = .ok (.ifCond .lt 11, 3) := by decide +kernel
theorem dX2_rowStart_8 : decode cX2_rowStart 8 = .ok (.iload_n 1, 1) := by decide +kernel
theorem dX2_rowStart_9 : decode cX2_rowStart 9 = .ok (.aload_n 0, 1) := by decide +kernel
theorem dX2_rowStart_10 : decode cX2_rowStart 10 = .ok (.getfield 18, 3) := by decide +kernel
theorem dX2_rowStart_13 : decode cX2_rowStart 13 = .ok (.if_icmp .le 7, 3) := by decide +kernel
theorem dX2_rowStart_16 : decode cX2_rowStart 16 = .ok (.iconst (-1), 1) := by decide +kernel
theorem dX2_rowStart_17 : decode cX2_rowStart 17 = .ok (.goto 9, 3) := by decide +kernel
theorem dX2_rowStart_20 : decode cX2_rowStart 20 = .ok (.aload_n 0, 1) := by decide +kernel
theorem dX2_rowStart_21 : decode cX2_rowStart 21 = .ok (.getfield 15, 3) := by decide +kernel
theorem dX2_rowStart_24 : decode cX2_rowStart 24 = .ok (.iload_n 1, 1) := by decide +kernel
theorem dX2_rowStart_25 : decode cX2_rowStart 25 = .ok (.iaload, 1) := by decide +kernel
theorem dX2_rowStart_26 : decode cX2_rowStart 26 = .ok (.ireturn, 1) := by decide +kernel
theorem dX2_renew_0 : decode cX2_renew 0 = .ok (.aload_n 0, 1) := by decide +kernel
theorem dX2_renew_1 : decode cX2_renew 1 = .ok (.getfield 22, 3) := by decide +kernel
theorem dX2_renew_4 : decode cX2_renew 4 = .ok (.aload_n 0, 1) := by decide +kernel
theorem dX2_renew_5 : decode cX2_renew 5 = .ok (.getfield 25, 3) := by decide +kernel
theorem dX2_renew_8 : decode cX2_renew 8 = .ok (.invokevirtual 32, 3) := by decide +kernel
theorem dX2_renew_11 : decode cX2_renew 11 = .ok (.if_icmp .ne 4, 3) := by decide +kernel
theorem dX2_renew_14 : decode cX2_renew 14 = .ok (.return_, 1) := by decide +kernel
theorem dX2_renew_15 : decode cX2_renew 15 = .ok (.aload_n 0, 1) := by decide +kernel
theorem dX2_renew_16 : decode cX2_renew 16 = .ok (.aload_n 0, 1) := by decide +kernel
theorem dX2_renew_17 : decode cX2_renew 17 = .ok (.getfield 25, 3) := by decide +kernel
theorem dX2_renew_20 : decode cX2_renew 20 = .ok (.invokevirtual 32, 3) := by decide +kernel
theorem dX2_renew_23 : decode cX2_renew 23 = .ok (.putfield 22, 3) := by decide +kernel
theorem dX2_renew_26 : decode cX2_renew 26 = .ok (.aload_n 0, 1) := by decide +kernel
theorem dX2_renew_27 : decode cX2_renew 27 = .ok (.iconst 0, 1) := by decide +kernel
theorem dX2_renew_28 : decode cX2_renew 28 = .ok (.putfield 18, 3) := by decide +kernel
theorem dX2_renew_31 : decode cX2_renew 31 = .ok (.iconst 0, 1) := by decide +kernel
theorem dX2_renew_32 : decode cX2_renew 32 = .ok (.istore_n 1, 1) := by decide +kernel
theorem dX2_renew_33 : decode cX2_renew 33 = .ok (.iload_n 1, 1) := by decide +kernel
theorem dX2_renew_34 : decode cX2_renew 34 = .ok (.bipush 64, 2) := by decide +kernel
theorem dX2_renew_36 : decode cX2_renew 36 = .ok (.if_icmp .ge 72, 3) := by decide +kernel
theorem dX2_renew_39 : decode cX2_renew 39 = .ok (.aload_n 0, 1) := by decide +kernel
theorem dX2_renew_40 : decode cX2_renew 40 = .ok (.getfield 9, 3) := by decide +kernel
theorem dX2_renew_43 : decode cX2_renew 43 = .ok (.iload_n 1, 1) := by decide +kernel
theorem dX2_renew_44 : decode cX2_renew 44 = .ok (.aload_n 0, 1) := by decide +kernel
theorem dX2_renew_45 : decode cX2_renew 45 = .ok (.getfield 25, 3) := by decide +kernel
theorem dX2_renew_48 : decode cX2_renew 48 = .ok (.iconst (-1), 1) := by decide +kernel
theorem dX2_renew_49 : decode cX2_renew 49 = .ok (.iload_n 1, 1) := by decide +kernel
theorem dX2_renew_50 : decode cX2_renew 50 = .ok (.aload_n 0, 1) := by decide +kernel
theorem dX2_renew_51 : decode cX2_renew 51 = .ok (.getfield 25, 3) := by decide +kernel
theorem dX2_renew_54 : decode cX2_renew 54 = .ok (.invokevirtual 37, 3) := by decide +kernel
theorem dX2_renew_57 : decode cX2_renew 57 = .ok (.invokevirtual 40, 3) := by decide +kernel
theorem dX2_renew_60 : decode cX2_renew 60 = .ok (.iastore, 1) := by decide +kernel
theorem dX2_renew_61 : decode cX2_renew 61 = .ok (.iload_n 1, 1) := by decide +kernel
theorem dX2_renew_62 : decode cX2_renew 62 = .ok (.ifCond .eq 20, 3) := by decide +kernel
theorem dX2_renew_65 : decode cX2_renew 65 = .ok (.aload_n 0, 1) := by decide +kernel
theorem dX2_renew_66 : decode cX2_renew 66 = .ok (.getfield 9, 3) := by decide +kernel
theorem dX2_renew_69 : decode cX2_renew 69 = .ok (.iload_n 1, 1) := by decide +kernel
theorem dX2_renew_70 : decode cX2_renew 70 = .ok (.iaload, 1) := by decide +kernel
theorem dX2_renew_71 : decode cX2_renew 71 = .ok (.aload_n 0, 1) := by decide +kernel
theorem dX2_renew_72 : decode cX2_renew 72 = .ok (.getfield 9, 3) := by decide +kernel
theorem dX2_renew_75 : decode cX2_renew 75 = .ok (.iload_n 1, 1) := by decide +kernel
theorem dX2_renew_76 : decode cX2_renew 76 = .ok (.iconst 1, 1) := by decide +kernel
theorem dX2_renew_77 : decode cX2_renew 77 = .ok (.isub, 1) := by decide +kernel
theorem dX2_renew_78 : decode cX2_renew 78 = .ok (.iaload, 1) := by decide +kernel
theorem dX2_renew_79 : decode cX2_renew 79 = .ok (.if_icmp .eq 23, 3) := by decide +kernel
theorem dX2_renew_82 : decode cX2_renew 82 = .ok (.aload_n 0, 1) := by decide +kernel
theorem dX2_renew_83 : decode cX2_renew 83 = .ok (.getfield 15, 3) := by decide +kernel
theorem dX2_renew_86 : decode cX2_renew 86 = .ok (.aload_n 0, 1) := by decide +kernel
theorem dX2_renew_87 : decode cX2_renew 87 = .ok (.getfield 18, 3) := by decide +kernel
theorem dX2_renew_90 : decode cX2_renew 90 = .ok (.iload_n 1, 1) := by decide +kernel
theorem dX2_renew_91 : decode cX2_renew 91 = .ok (.iastore, 1) := by decide +kernel
theorem dX2_renew_92 : decode cX2_renew 92 = .ok (.aload_n 0, 1) := by decide +kernel
theorem dX2_renew_93 : decode cX2_renew 93 = .ok (.dup, 1) := by decide +kernel
theorem dX2_renew_94 : decode cX2_renew 94 = .ok (.getfield 18, 3) := by decide +kernel
theorem dX2_renew_97 : decode cX2_renew 97 = .ok (.iconst 1, 1) := by decide +kernel
theorem dX2_renew_98 : decode cX2_renew 98 = .ok (.iadd, 1) := by decide +kernel
theorem dX2_renew_99 : decode cX2_renew 99 = .ok (.putfield 18, 3) := by decide +kernel
theorem dX2_renew_102 : decode cX2_renew 102 = .ok (.iinc 1 1, 3) := by decide +kernel
theorem dX2_renew_105 : decode cX2_renew 105 = .ok (.goto (-72), 3) := by decide +kernel
theorem dX2_renew_108 : decode cX2_renew 108 = .ok (.aload_n 0, 1) := by decide +kernel
theorem dX2_renew_109 : decode cX2_renew 109 = .ok (.getfield 15, 3) := by decide +kernel
theorem dX2_renew_112 : decode cX2_renew 112 = .ok (.aload_n 0, 1) := by decide +kernel
theorem dX2_renew_113 : decode cX2_renew 113 = .ok (.getfield 18, 3) := by decide +kernel
theorem dX2_renew_116 : decode cX2_renew 116 = .ok (.bipush 64, 2) := by decide +kernel
theorem dX2_renew_118 : decode cX2_renew 118 = .ok (.iastore, 1) := by decide +kernel
theorem dX2_renew_119 : decode cX2_renew 119 = .ok (.return_, 1) := by decide +kernel
theorem dX3_init_0 : decode cX3_init 0 = .ok (.aload_n 0, 1) := by decide +kernel
theorem dX3_init_1 : decode cX3_init 1 = .ok (.invokespecial 3, 3) := by decide +kernel
theorem dX3_init_4 : decode cX3_init 4 = .ok (.aload_n 0, 1) := by decide +kernel
theorem dX3_init_5 : decode cX3_init 5 = .ok (.iconst 0, 1) := by decide +kernel
theorem dX3_init_6 : decode cX3_init 6 = .ok (.putfield 11, 3) := by decide +kernel
theorem dX3_init_9 : decode cX3_init 9 = .ok (.aload_n 0, 1) := by decide +kernel
theorem dX3_init_10 : decode cX3_init 10 = .ok (.iconst 0, 1) := by decide +kernel
theorem dX3_init_11 : decode cX3_init 11 = .ok (.putfield 15, 3) := by decide +kernel
theorem dX3_init_14 : decode cX3_init 14 = .ok (.aload_n 0, 1) := by decide +kernel
theorem dX3_init_15 : decode cX3_init 15 = .ok (.iconst 0, 1) := by decide +kernel
theorem dX3_init_16 : decode cX3_init 16 = .ok (.putfield 18, 3) := by decide +kernel
theorem dX3_init_19 : decode cX3_init 19 = .ok (.aload_n 0, 1) := by decide +kernel
theorem dX3_init_20 : decode cX3_init 20 = .ok (.iconst 0, 1) := by decide +kernel
theorem dX3_init_21 : decode cX3_init 21 = .ok (.putfield 22, 3) := by decide +kernel
theorem dX3_init_24 : decode cX3_init 24 = .ok (.aload_n 0, 1) := by decide +kernel
theorem dX3_init_25 : decode cX3_init 25 = .ok (.iconst 0, 1) := by decide +kernel
theorem dX3_init_26 : decode cX3_init 26 = .ok (.putfield 25, 3) := by decide +kernel
theorem dX3_init_29 : decode cX3_init 29 = .ok (.aload_n 0, 1) := by decide +kernel
theorem dX3_init_30 : decode cX3_init 30 = .ok (.iconst 0, 1) := by decide +kernel
theorem dX3_init_31 : decode cX3_init 31 = .ok (.putfield 28, 3) := by decide +kernel
theorem dX3_init_34 : decode cX3_init 34 = .ok (.return_, 1) := by decide +kernel
theorem dX4_init_0 : decode cX4_init 0 = .ok (.aload_n 0, 1) := by decide +kernel
theorem dX4_init_1 : decode cX4_init 1 = .ok (.invokespecial 3, 3) := by decide +kernel
theorem dX4_init_4 : decode cX4_init 4 = .ok (.aload_n 0, 1) := by decide +kernel
theorem dX4_init_5 : decode cX4_init 5 = .ok (.bipush 20, 2) := by decide +kernel
theorem dX4_init_7 : decode cX4_init 7 = .ok (.newarray .int, 2) := by decide +kernel
theorem dX4_init_9 : decode cX4_init 9 = .ok (.putfield 9, 3) := by decide +kernel
theorem dX4_init_12 : decode cX4_init 12 = .ok (.aload_n 0, 1) := by decide +kernel
theorem dX4_init_13 : decode cX4_init 13 = .ok (.iconst (-1), 1) := by decide +kernel
theorem dX4_init_14 : decode cX4_init 14 = .ok (.putfield 15, 3) := by decide +kernel
theorem dX4_init_17 : decode cX4_init 17 = .ok (.aload_n 0, 1) := by decide +kernel
theorem dX4_init_18 : decode cX4_init 18 = .ok (.aload_n 1, 1) := by decide +kernel
theorem dX4_init_19 : decode cX4_init 19 = .ok (.putfield 19, 3) := by decide +kernel
theorem dX4_init_22 : decode cX4_init 22 = .ok (.return_, 1) := by decide +kernel
theorem dX4_firstMoment_0 : decode cX4_firstMoment 0 = .ok (.aload_n 0, 1) := by decide +kernel
theorem dX4_firstMoment_1 : decode cX4_firstMoment 1 = .ok (.invokevirtual 23, 3) := by decide +kernel
theorem dX4_firstMoment_4 : decode cX4_firstMoment 4 = .ok (.iload_n 1, 1) := by decide +kernel
theorem dX4_firstMoment_5 : decode cX4_firstMoment 5 = .ok (.ifCond .lt 9, 3) := by decide +kernel
theorem dX4_firstMoment_8 : decode cX4_firstMoment 8 = .ok (.iload_n 1, 1) := by decide +kernel
theorem dX4_firstMoment_9 : decode cX4_firstMoment 9 = .ok (.bipush 20, 2) := by decide +kernel
theorem dX4_firstMoment_11 : decode cX4_firstMoment 11 = .ok (.if_icmp .lt 7, 3) := by decide +kernel
theorem dX4_firstMoment_14 : decode cX4_firstMoment 14 = .ok (.iconst (-1), 1) := by decide +kernel
theorem dX4_firstMoment_15 : decode cX4_firstMoment 15 = .ok (.goto 9, 3) := by decide +kernel
theorem dX4_firstMoment_18 : decode cX4_firstMoment 18 = .ok (.aload_n 0, 1) := by decide +kernel
theorem dX4_firstMoment_19 : decode cX4_firstMoment 19 = .ok (.getfield 9, 3) := by decide +kernel
theorem dX4_firstMoment_22 : decode cX4_firstMoment 22 = .ok (.iload_n 1, 1) := by decide +kernel
theorem dX4_firstMoment_23 : decode cX4_firstMoment 23 = .ok (.iaload, 1) := by decide +kernel
theorem dX4_firstMoment_24 : decode cX4_firstMoment 24 = .ok (.ireturn, 1) := by decide +kernel
theorem dX4_neverLowest_0 : decode cX4_neverLowest 0 = .ok (.aload_n 0, 1) := by decide +kernel
theorem dX4_neverLowest_1 : decode cX4_neverLowest 1 = .ok (.invokevirtual 23, 3) := by decide +kernel
theorem dX4_neverLowest_4 : decode cX4_neverLowest 4 = .ok (.iconst 0, 1) := by decide +kernel
theorem dX4_neverLowest_5 : decode cX4_neverLowest 5 = .ok (.istore_n 1, 1) := by decide +kernel
theorem dX4_neverLowest_6 : decode cX4_neverLowest 6 = .ok (.iconst 0, 1) := by decide +kernel
theorem dX4_neverLowest_7 : decode cX4_neverLowest 7 = .ok (.istore_n 2, 1) := by decide +kernel
theorem dX4_neverLowest_8 : decode cX4_neverLowest 8 = .ok (.iload_n 2, 1) := by decide +kernel
theorem dX4_neverLowest_9 : decode cX4_neverLowest 9 = .ok (.aload_n 0, 1) := by decide +kernel
theorem dX4_neverLowest_10 : decode cX4_neverLowest 10 = .ok (.getfield 19, 3) := by decide +kernel
theorem dX4_neverLowest_13 : decode cX4_neverLowest 13 = .ok (.invokevirtual 26, 3) := by decide +kernel
theorem dX4_neverLowest_16 : decode cX4_neverLowest 16 = .ok (.if_icmp .ge 31, 3) := by decide +kernel
theorem dX4_neverLowest_19 : decode cX4_neverLowest 19 = .ok (.iload_n 2, 1) := by decide +kernel
theorem dX4_neverLowest_20 : decode cX4_neverLowest 20 = .ok (.bipush 20, 2) := by decide +kernel
theorem dX4_neverLowest_22 : decode cX4_neverLowest 22 = .ok (.if_icmp .ge 25, 3) := by decide +kernel
theorem dX4_neverLowest_25 : decode cX4_neverLowest 25 = .ok (.aload_n 0, 1) := by decide +kernel
theorem dX4_neverLowest_26 : decode cX4_neverLowest 26 = .ok (.getfield 9, 3) := by decide +kernel
theorem dX4_neverLowest_29 : decode cX4_neverLowest 29 = .ok (.iload_n 2, 1) := by decide +kernel
theorem dX4_neverLowest_30 : decode cX4_neverLowest 30 = .ok (.iaload, 1) := by decide +kernel
theorem dX4_neverLowest_31 : decode cX4_neverLowest 31 = .ok (.iconst (-1), 1) := by decide +kernel
theorem dX4_neverLowest_32 : decode cX4_neverLowest 32 = .ok (.if_icmp .ne 9, 3) := by decide +kernel
theorem dX4_neverLowest_35 : decode cX4_neverLowest 35 = .ok (.iload_n 1, 1) := by decide +kernel
theorem dX4_neverLowest_36 : decode cX4_neverLowest 36 = .ok (.iconst 1, 1) := by decide +kernel
theorem dX4_neverLowest_37 : decode cX4_neverLowest 37 = .ok (.iload_n 2, 1) := by decide +kernel
theorem dX4_neverLowest_38 : decode cX4_neverLowest 38 = .ok (.ishl, 1) := by decide +kernel
theorem dX4_neverLowest_39 : decode cX4_neverLowest 39 = .ok (.ior, 1) := by decide +kernel
theorem dX4_neverLowest_40 : decode cX4_neverLowest 40 = .ok (.istore_n 1, 1) := by decide +kernel
theorem dX4_neverLowest_41 : decode cX4_neverLowest 41 = .ok (.iinc 2 1, 3) := by decide +kernel
theorem dX4_neverLowest_44 : decode cX4_neverLowest 44 = .ok (.goto (-36), 3) := by decide +kernel
theorem dX4_neverLowest_47 : decode cX4_neverLowest 47 = .ok (.iload_n 1, 1) := by decide +kernel
theorem dX4_neverLowest_48 : decode cX4_neverLowest 48 = .ok (.ireturn, 1) := by decide +kernel
theorem dX4_renew_0 : decode cX4_renew 0 = .ok (.aload_n 0, 1) := by decide +kernel
theorem dX4_renew_1 : decode cX4_renew 1 = .ok (.getfield 15, 3) := by decide +kernel
theorem dX4_renew_4 : decode cX4_renew 4 = .ok (.aload_n 0, 1) := by decide +kernel
theorem dX4_renew_5 : decode cX4_renew 5 = .ok (.getfield 19, 3) := by decide +kernel
theorem dX4_renew_8 : decode cX4_renew 8 = .ok (.invokevirtual 32, 3) := by decide +kernel
theorem dX4_renew_11 : decode cX4_renew 11 = .ok (.if_icmp .ne 4, 3) := by decide +kernel
theorem dX4_renew_14 : decode cX4_renew 14 = .ok (.return_, 1) := by decide +kernel
theorem dX4_renew_15 : decode cX4_renew 15 = .ok (.aload_n 0, 1) := by decide +kernel
theorem dX4_renew_16 : decode cX4_renew 16 = .ok (.aload_n 0, 1) := by decide +kernel
theorem dX4_renew_17 : decode cX4_renew 17 = .ok (.getfield 19, 3) := by decide +kernel
theorem dX4_renew_20 : decode cX4_renew 20 = .ok (.invokevirtual 32, 3) := by decide +kernel
theorem dX4_renew_23 : decode cX4_renew 23 = .ok (.putfield 15, 3) := by decide +kernel
theorem dX4_renew_26 : decode cX4_renew 26 = .ok (.aload_n 0, 1) := by decide +kernel
theorem dX4_renew_27 : decode cX4_renew 27 = .ok (.getfield 9, 3) := by decide +kernel
theorem dX4_renew_30 : decode cX4_renew 30 = .ok (.iconst (-1), 1) := by decide +kernel
theorem dX4_renew_31 : decode cX4_renew 31 = .ok (.invokestatic 34, 3) := by decide +kernel
theorem dX4_renew_34 : decode cX4_renew 34 = .ok (.iconst 0, 1) := by decide +kernel
theorem dX4_renew_35 : decode cX4_renew 35 = .ok (.istore_n 1, 1) := by decide +kernel
theorem dX4_renew_36 : decode cX4_renew 36 = .ok (.iload_n 1, 1) := by decide +kernel
theorem dX4_renew_37 : decode cX4_renew 37 = .ok (.bipush 100, 2) := by decide +kernel
theorem dX4_renew_39 : decode cX4_renew 39 = .ok (.if_icmp .ge 25, 3) := by decide +kernel
theorem dX4_renew_42 : decode cX4_renew 42 = .ok (.aload_n 0, 1) := by decide +kernel
theorem dX4_renew_43 : decode cX4_renew 43 = .ok (.getfield 19, 3) := by decide +kernel
theorem dX4_renew_46 : decode cX4_renew 46 = .ok (.iload_n 1, 1) := by decide +kernel
theorem dX4_renew_47 : decode cX4_renew 47 = .ok (.invokevirtual 40, 3) := by decide +kernel
theorem dX4_renew_50 : decode cX4_renew 50 = .ok (.ifCond .eq 8, 3) := by decide +kernel
theorem dX4_renew_53 : decode cX4_renew 53 = .ok (.aload_n 0, 1) := by decide +kernel
theorem dX4_renew_54 : decode cX4_renew 54 = .ok (.iload_n 1, 1) := by decide +kernel
theorem dX4_renew_55 : decode cX4_renew 55 = .ok (.invokevirtual 44, 3) := by decide +kernel
theorem dX4_renew_58 : decode cX4_renew 58 = .ok (.iinc 1 1, 3) := by decide +kernel
theorem dX4_renew_61 : decode cX4_renew 61 = .ok (.goto (-25), 3) := by decide +kernel
theorem dX4_renew_64 : decode cX4_renew 64 = .ok (.return_, 1) := by decide +kernel
theorem dX4_note_0 : decode cX4_note 0 = .ok (.iconst 0, 1) := by decide +kernel
theorem dX4_note_1 : decode cX4_note 1 = .ok (.istore_n 2, 1) := by decide +kernel
theorem dX4_note_2 : decode cX4_note 2 = .ok (.iload_n 2, 1) := by decide +kernel
theorem dX4_note_3 : decode cX4_note 3 = .ok (.bipush 64, 2) := by decide +kernel
theorem dX4_note_5 : decode cX4_note 5 = .ok (.if_icmp .ge 47, 3) := by decide +kernel
theorem dX4_note_8 : decode cX4_note 8 = .ok (.aload_n 0, 1) := by decide +kernel
theorem dX4_note_9 : decode cX4_note 9 = .ok (.getfield 19, 3) := by decide +kernel
theorem dX4_note_12 : decode cX4_note 12 = .ok (.iconst (-1), 1) := by decide +kernel
theorem dX4_note_13 : decode cX4_note 13 = .ok (.iload_n 2, 1) := by decide +kernel
theorem dX4_note_14 : decode cX4_note 14 = .ok (.iload_n 1, 1) := by decide +kernel
theorem dX4_note_15 : decode cX4_note 15 = .ok (.invokevirtual 48, 3) := by decide +kernel
theorem dX4_note_18 : decode cX4_note 18 = .ok (.istore_n 3, 1) := by decide +kernel
theorem dX4_note_19 : decode cX4_note 19 = .ok (.iload_n 3, 1) := by decide +kernel
theorem dX4_note_20 : decode cX4_note 20 = .ok (.ifCond .lt 26, 3) := by decide +kernel
theorem dX4_note_23 : decode cX4_note 23 = .ok (.iload_n 3, 1) := by decide +kernel
theorem dX4_note_24 : decode cX4_note 24 = .ok (.bipush 20, 2) := by decide +kernel
theorem dX4_note_26 : decode cX4_note 26 = .ok (.if_icmp .ge 20, 3) := by decide +kernel
theorem dX4_note_29 : decode cX4_note 29 = .ok (.aload_n 0, 1) := by decide +kernel
theorem dX4_note_30 : decode cX4_note 30 = .ok (.getfield 9, 3) := by decide +kernel
theorem dX4_note_33 : decode cX4_note 33 = .ok (.iload_n 3, 1) := by decide +kernel
theorem dX4_note_34 : decode cX4_note 34 = .ok (.iaload, 1) := by decide +kernel
theorem dX4_note_35 : decode cX4_note 35 = .ok (.iconst (-1), 1) := by decide +kernel
theorem dX4_note_36 : decode cX4_note 36 = .ok (.if_icmp .ne 10, 3) := by decide +kernel
theorem dX4_note_39 : decode cX4_note 39 = .ok (.aload_n 0, 1) := by decide +kernel
theorem dX4_note_40 : decode cX4_note 40 = .ok (.getfield 9, 3) := by decide +kernel
theorem dX4_note_43 : decode cX4_note 43 = .ok (.iload_n 3, 1) := by decide +kernel
theorem dX4_note_44 : decode cX4_note 44 = .ok (.iload_n 1, 1) := by decide +kernel
theorem dX4_note_45 : decode cX4_note 45 = .ok (.iastore, 1) := by decide +kernel
theorem dX4_note_46 : decode cX4_note 46 = .ok (.iinc 2 1, 3) := by decide +kernel
theorem dX4_note_49 : decode cX4_note 49 = .ok (.goto (-47), 3) := by decide +kernel
theorem dX4_note_52 : decode cX4_note 52 = .ok (.return_, 1) := by decide +kernel
theorem dX5_init_0 : decode cX5_init 0 = .ok (.aload_n 0, 1) := by decide +kernel
theorem dX5_init_1 : decode cX5_init 1 = .ok (.invokespecial 3, 3) := by decide +kernel
theorem dX5_init_4 : decode cX5_init 4 = .ok (.aload_n 0, 1) := by decide +kernel
theorem dX5_init_5 : decode cX5_init 5 = .ok (.bipush 60, 2) := by decide +kernel
theorem dX5_init_7 : decode cX5_init 7 = .ok (.newarray .int, 2) := by decide +kernel
theorem dX5_init_9 : decode cX5_init 9 = .ok (.putfield 9, 3) := by decide +kernel
theorem dX5_init_12 : decode cX5_init 12 = .ok (.aload_n 0, 1) := by decide +kernel
theorem dX5_init_13 : decode cX5_init 13 = .ok (.new 15, 3) := by decide +kernel
theorem dX5_init_16 : decode cX5_init 16 = .ok (.dup, 1) := by decide +kernel
theorem dX5_init_17 : decode cX5_init 17 = .ok (.invokespecial 17, 3) := by decide +kernel
theorem dX5_init_20 : decode cX5_init 20 = .ok (.putfield 18, 3) := by decide +kernel
theorem dX5_init_23 : decode cX5_init 23 = .ok (.aload_n 0, 1) := by decide +kernel
theorem dX5_init_24 : decode cX5_init 24 = .ok (.iconst 0, 1) := by decide +kernel
theorem dX5_init_25 : decode cX5_init 25 = .ok (.putfield 22, 3) := by decide +kernel
theorem dX5_init_28 : decode cX5_init 28 = .ok (.return_, 1) := by decide +kernel
theorem dX6_init_0 : decode cX6_init 0 = .ok (.aload_n 0, 1) := by decide +kernel
theorem dX6_init_1 : decode cX6_init 1 = .ok (.invokespecial 3, 3) := by decide +kernel
theorem dX6_init_4 : decode cX6_init 4 = .ok (.aload_n 0, 1) := by decide +kernel
theorem dX6_init_5 : decode cX6_init 5 = .ok (.sipush 128, 3) := by decide +kernel
theorem dX6_init_8 : decode cX6_init 8 = .ok (.newarray .int, 2) := by decide +kernel
theorem dX6_init_10 : decode cX6_init 10 = .ok (.putfield 9, 3) := by decide +kernel
theorem dX6_init_13 : decode cX6_init 13 = .ok (.aload_n 0, 1) := by decide +kernel
theorem dX6_init_14 : decode cX6_init 14 = .ok (.sipush 128, 3) := by decide +kernel
theorem dX6_init_17 : decode cX6_init 17 = .ok (.newarray .int, 2) := by decide +kernel
theorem dX6_init_19 : decode cX6_init 19 = .ok (.putfield 15, 3) := by decide +kernel
theorem dX6_init_22 : decode cX6_init 22 = .ok (.aload_n 0, 1) := by decide +kernel
theorem dX6_init_23 : decode cX6_init 23 = .ok (.sipush 128, 3) := by decide +kernel
theorem dX6_init_26 : decode cX6_init 26 = .ok (.newarray .int, 2) := by decide +kernel
theorem dX6_init_28 : decode cX6_init 28 = .ok (.putfield 18, 3) := by decide +kernel
theorem dX6_init_31 : decode cX6_init 31 = .ok (.aload_n 0, 1) := by decide +kernel
theorem dX6_init_32 : decode cX6_init 32 = .ok (.sipush 128, 3) := by decide +kernel
theorem dX6_init_35 : decode cX6_init 35 = .ok (.newarray .int, 2) := by decide +kernel
theorem dX6_init_37 : decode cX6_init 37 = .ok (.putfield 21, 3) := by decide +kernel
theorem dX6_init_40 : decode cX6_init 40 = .ok (.aload_n 0, 1) := by decide +kernel
theorem dX6_init_41 : decode cX6_init 41 = .ok (.iconst (-1), 1) := by decide +kernel
theorem dX6_init_42 : decode cX6_init 42 = .ok (.putfield 24, 3) := by decide +kernel
theorem dX6_init_45 : decode cX6_init 45 = .ok (.aload_n 0, 1) := by decide +kernel
theorem dX6_init_46 : decode cX6_init 46 = .ok (.aload_n 1, 1) := by decide +kernel
theorem dX6_init_47 : decode cX6_init 47 = .ok (.putfield 28, 3) := by decide +kernel
theorem dX6_init_50 : decode cX6_init 50 = .ok (.aload_n 0, 1) := by decide +kernel
theorem dX6_init_51 : decode cX6_init 51 = .ok (.getfield 15, 3) := by decide +kernel
theorem dX6_init_54 : decode cX6_init 54 = .ok (.iconst 1, 1) := by decide +kernel
theorem dX6_init_55 : decode cX6_init 55 = .ok (.bipush 63, 2) := by decide +kernel
theorem dX6_init_57 : decode cX6_init 57 = .ok (.iastore, 1) := by decide +kernel
theorem dX6_init_58 : decode cX6_init 58 = .ok (.iconst 1, 1) := by decide +kernel
theorem dX6_init_59 : decode cX6_init 59 = .ok (.istore_n 2, 1) := by decide +kernel
theorem dX6_init_60 : decode cX6_init 60 = .ok (.iconst 2, 1) := by decide +kernel
theorem dX6_init_61 : decode cX6_init 61 = .ok (.iload_n 2, 1) := by decide +kernel
theorem dX6_init_62 : decode cX6_init 62 = .ok (.imul, 1) := by decide +kernel
theorem dX6_init_63 : decode cX6_init 63 = .ok (.bipush 127, 2) := by decide +kernel
theorem dX6_init_65 : decode cX6_init 65 = .ok (.if_icmp .ge 77, 3) := by decide +kernel
theorem dX6_init_68 : decode cX6_init 68 = .ok (.aload_n 0, 1) := by decide +kernel
theorem dX6_init_69 : decode cX6_init 69 = .ok (.getfield 9, 3) := by decide +kernel
theorem dX6_init_72 : decode cX6_init 72 = .ok (.iload_n 2, 1) := by decide +kernel
theorem dX6_init_73 : decode cX6_init 73 = .ok (.iaload, 1) := by decide +kernel
theorem dX6_init_74 : decode cX6_init 74 = .ok (.aload_n 0, 1) := by decide +kernel
theorem dX6_init_75 : decode cX6_init 75 = .ok (.getfield 15, 3) := by decide +kernel
theorem dX6_init_78 : decode cX6_init 78 = .ok (.iload_n 2, 1) := by decide +kernel
theorem dX6_init_79 : decode cX6_init 79 = .ok (.iaload, 1) := by decide +kernel
theorem dX6_init_80 : decode cX6_init 80 = .ok (.iadd, 1) := by decide +kernel
theorem dX6_init_81 : decode cX6_init 81 = .ok (.iconst 2, 1) := by decide +kernel
theorem dX6_init_82 : decode cX6_init 82 = .ok (.idiv, 1) := by decide +kernel
theorem dX6_init_83 : decode cX6_init 83 = .ok (.istore_n 3, 1) := by decide +kernel
theorem dX6_init_84 : decode cX6_init 84 = .ok (.aload_n 0, 1) := by decide +kernel
theorem dX6_init_85 : decode cX6_init 85 = .ok (.getfield 9, 3) := by decide +kernel
theorem dX6_init_88 : decode cX6_init 88 = .ok (.iconst 2, 1) := by decide +kernel
theorem dX6_init_89 : decode cX6_init 89 = .ok (.iload_n 2, 1) := by decide +kernel
theorem dX6_init_90 : decode cX6_init 90 = .ok (.imul, 1) := by decide +kernel
theorem dX6_init_91 : decode cX6_init 91 = .ok (.aload_n 0, 1) := by decide +kernel
theorem dX6_init_92 : decode cX6_init 92 = .ok (.getfield 9, 3) := by decide +kernel
theorem dX6_init_95 : decode cX6_init 95 = .ok (.iload_n 2, 1) := by decide +kernel
theorem dX6_init_96 : decode cX6_init 96 = .ok (.iaload, 1) := by decide +kernel
theorem dX6_init_97 : decode cX6_init 97 = .ok (.iastore, 1) := by decide +kernel
theorem dX6_init_98 : decode cX6_init 98 = .ok (.aload_n 0, 1) := by decide +kernel
theorem dX6_init_99 : decode cX6_init 99 = .ok (.getfield 15, 3) := by decide +kernel
theorem dX6_init_102 : decode cX6_init 102 = .ok (.iconst 2, 1) := by decide +kernel
theorem dX6_init_103 : decode cX6_init 103 = .ok (.iload_n 2, 1) := by decide +kernel
theorem dX6_init_104 : decode cX6_init 104 = .ok (.imul, 1) := by decide +kernel
theorem dX6_init_105 : decode cX6_init 105 = .ok (.iload_n 3, 1) := by decide +kernel
theorem dX6_init_106 : decode cX6_init 106 = .ok (.iastore, 1) := by decide +kernel
theorem dX6_init_107 : decode cX6_init 107 = .ok (.aload_n 0, 1) := by decide +kernel
theorem dX6_init_108 : decode cX6_init 108 = .ok (.getfield 9, 3) := by decide +kernel
theorem dX6_init_111 : decode cX6_init 111 = .ok (.iconst 2, 1) := by decide +kernel
theorem dX6_init_112 : decode cX6_init 112 = .ok (.iload_n 2, 1) := by decide +kernel
theorem dX6_init_113 : decode cX6_init 113 = .ok (.imul, 1) := by decide +kernel
theorem dX6_init_114 : decode cX6_init 114 = .ok (.iconst 1, 1) := by decide +kernel
theorem dX6_init_115 : decode cX6_init 115 = .ok (.iadd, 1) := by decide +kernel
theorem dX6_init_116 : decode cX6_init 116 = .ok (.iload_n 3, 1) := by decide +kernel
theorem dX6_init_117 : decode cX6_init 117 = .ok (.iconst 1, 1) := by decide +kernel
theorem dX6_init_118 : decode cX6_init 118 = .ok (.iadd, 1) := by decide +kernel
theorem dX6_init_119 : decode cX6_init 119 = .ok (.iastore, 1) := by decide +kernel
theorem dX6_init_120 : decode cX6_init 120 = .ok (.aload_n 0, 1) := by decide +kernel
theorem dX6_init_121 : decode cX6_init 121 = .ok (.getfield 15, 3) := by decide +kernel
theorem dX6_init_124 : decode cX6_init 124 = .ok (.iconst 2, 1) := by decide +kernel
theorem dX6_init_125 : decode cX6_init 125 = .ok (.iload_n 2, 1) := by decide +kernel
theorem dX6_init_126 : decode cX6_init 126 = .ok (.imul, 1) := by decide +kernel
theorem dX6_init_127 : decode cX6_init 127 = .ok (.iconst 1, 1) := by decide +kernel
theorem dX6_init_128 : decode cX6_init 128 = .ok (.iadd, 1) := by decide +kernel
theorem dX6_init_129 : decode cX6_init 129 = .ok (.aload_n 0, 1) := by decide +kernel
theorem dX6_init_130 : decode cX6_init 130 = .ok (.getfield 15, 3) := by decide +kernel
theorem dX6_init_133 : decode cX6_init 133 = .ok (.iload_n 2, 1) := by decide +kernel
theorem dX6_init_134 : decode cX6_init 134 = .ok (.iaload, 1) := by decide +kernel
theorem dX6_init_135 : decode cX6_init 135 = .ok (.iastore, 1) := by decide +kernel
theorem dX6_init_136 : decode cX6_init 136 = .ok (.iinc 2 1, 3) := by decide +kernel
theorem dX6_init_139 : decode cX6_init 139 = .ok (.goto (-79), 3) := by decide +kernel
theorem dX6_init_142 : decode cX6_init 142 = .ok (.return_, 1) := by decide +kernel
theorem dX6_firstPlace_0 : decode cX6_firstPlace 0 = .ok (.iload_n 1, 1) := by decide +kernel
theorem dX6_firstPlace_1 : decode cX6_firstPlace 1 = .ok (.invokestatic 32, 3) := by decide +kernel
theorem dX6_firstPlace_4 : decode cX6_firstPlace 4 = .ok (.ifCond .eq 12, 3) := by decide +kernel
theorem dX6_firstPlace_7 : decode cX6_firstPlace 7 = .ok (.aload_n 0, 1) := by decide +kernel
theorem dX6_firstPlace_8 : decode cX6_firstPlace 8 = .ok (.getfield 9, 3) := by decide +kernel
theorem dX6_firstPlace_11 : decode cX6_firstPlace 11 = .ok (.iload_n 1, 1) := by decide +kernel
theorem dX6_firstPlace_12 : decode cX6_firstPlace 12 = .ok (.iaload, 1) := by decide +kernel
theorem dX6_firstPlace_13 : decode cX6_firstPlace 13 = .ok (.goto 4, 3) := by decide +kernel
theorem dX6_firstPlace_16 : decode cX6_firstPlace 16 = .ok (.iconst (-1), 1) := by decide +kernel
theorem dX6_firstPlace_17 : decode cX6_firstPlace 17 = .ok (.ireturn, 1) := by decide +kernel
theorem dX6_lastPlace_0 : decode cX6_lastPlace 0 = .ok (.iload_n 1, 1) := by decide +kernel
theorem dX6_lastPlace_1 : decode cX6_lastPlace 1 = .ok (.invokestatic 32, 3) := by decide +kernel
theorem dX6_lastPlace_4 : decode cX6_lastPlace 4 = .ok (.ifCond .eq 12, 3) := by decide +kernel
theorem dX6_lastPlace_7 : decode cX6_lastPlace 7 = .ok (.aload_n 0, 1) := by decide +kernel
theorem dX6_lastPlace_8 : decode cX6_lastPlace 8 = .ok (.getfield 15, 3) := by decide +kernel
theorem dX6_lastPlace_11 : decode cX6_lastPlace 11 = .ok (.iload_n 1, 1) := by decide +kernel
theorem dX6_lastPlace_12 : decode cX6_lastPlace 12 = .ok (.iaload, 1) := by decide +kernel
theorem dX6_lastPlace_13 : decode cX6_lastPlace 13 = .ok (.goto 4, 3) := by decide +kernel
theorem dX6_lastPlace_16 : decode cX6_lastPlace 16 = .ok (.iconst (-1), 1) := by decide +kernel
theorem dX6_lastPlace_17 : decode cX6_lastPlace 17 = .ok (.ireturn, 1) := by decide +kernel
theorem dX6_middle_0 : decode cX6_middle 0 = .ok (.iload_n 1, 1) := by decide +kernel
theorem dX6_middle_1 : decode cX6_middle 1 = .ok (.invokestatic 32, 3) := by decide +kernel
theorem dX6_middle_4 : decode cX6_middle 4 = .ok (.ifCond .eq 21, 3) := by decide +kernel
theorem dX6_middle_7 : decode cX6_middle 7 = .ok (.aload_n 0, 1) := by decide +kernel
theorem dX6_middle_8 : decode cX6_middle 8 = .ok (.getfield 9, 3) := by decide +kernel
theorem dX6_middle_11 : decode cX6_middle 11 = .ok (.iload_n 1, 1) := by decide +kernel
theorem dX6_middle_12 : decode cX6_middle 12 = .ok (.iaload, 1) := by decide +kernel
theorem dX6_middle_13 : decode cX6_middle 13 = .ok (.aload_n 0, 1) := by decide +kernel
theorem dX6_middle_14 : decode cX6_middle 14 = .ok (.getfield 15, 3) := by decide +kernel
theorem dX6_middle_17 : decode cX6_middle 17 = .ok (.iload_n 1, 1) := by decide +kernel
theorem dX6_middle_18 : decode cX6_middle 18 = .ok (.iaload, 1) := by decide +kernel
theorem dX6_middle_19 : decode cX6_middle 19 = .ok (.iadd, 1) := by decide +kernel
theorem dX6_middle_20 : decode cX6_middle 20 = .ok (.iconst 2, 1) := by decide +kernel
theorem dX6_middle_21 : decode cX6_middle 21 = .ok (.idiv, 1) := by decide +kernel
theorem dX6_middle_22 : decode cX6_middle 22 = .ok (.goto 4, 3) := by decide +kernel
theorem dX6_middle_25 : decode cX6_middle 25 = .ok (.iconst (-1), 1) := by decide +kernel
theorem dX6_middle_26 : decode cX6_middle 26 = .ok (.ireturn, 1) := by decide +kernel
theorem dX6_lineOf_0 : decode cX6_lineOf 0 = .ok (.aload_n 0, 1) := by decide +kernel
theorem dX6_lineOf_1 : decode cX6_lineOf 1 = .ok (.invokevirtual 36, 3) := by decide +kernel
theorem dX6_lineOf_4 : decode cX6_lineOf 4 = .ok (.iload_n 1, 1) := by decide +kernel
theorem dX6_lineOf_5 : decode cX6_lineOf 5 = .ok (.invokestatic 32, 3) := by decide +kernel
theorem dX6_lineOf_8 : decode cX6_lineOf 8 = .ok (.ifCond .eq 12, 3) := by decide +kernel
theorem dX6_lineOf_11 : decode cX6_lineOf 11 = .ok (.aload_n 0, 1) := by decide +kernel
theorem dX6_lineOf_12 : decode cX6_lineOf 12 = .ok (.getfield 18, 3) := by decide +kernel
theorem dX6_lineOf_15 : decode cX6_lineOf 15 = .ok (.iload_n 1, 1) := by decide +kernel
theorem dX6_lineOf_16 : decode cX6_lineOf 16 = .ok (.iaload, 1) := by decide +kernel
theorem dX6_lineOf_17 : decode cX6_lineOf 17 = .ok (.goto 4, 3) := by decide +kernel
theorem dX6_lineOf_20 : decode cX6_lineOf 20 = .ok (.iconst (-1), 1) := by decide +kernel
theorem dX6_lineOf_21 : decode cX6_lineOf 21 = .ok (.ireturn, 1) := by decide +kernel
theorem dX6_stepsAt_0 : decode cX6_stepsAt 0 = .ok (.aload_n 0, 1) := by decide +kernel
theorem dX6_stepsAt_1 : decode cX6_stepsAt 1 = .ok (.invokevirtual 36, 3) := by decide +kernel
theorem dX6_stepsAt_4 : decode cX6_stepsAt 4 = .ok (.iload_n 1, 1) := by decide +kernel
theorem dX6_stepsAt_5 : decode cX6_stepsAt 5 = .ok (.invokestatic 32, 3) := by decide +kernel
theorem dX6_stepsAt_8 : decode cX6_stepsAt 8 = .ok (.ifCond .eq 12, 3) := by decide +kernel
theorem dX6_stepsAt_11 : decode cX6_stepsAt 11 = .ok (.aload_n 0, 1) := by decide +kernel
theorem dX6_stepsAt_12 : decode cX6_stepsAt 12 = .ok (.getfield 21, 3) := by decide +kernel
theorem dX6_stepsAt_15 : decode cX6_stepsAt 15 = .ok (.iload_n 1, 1) := by decide +kernel
theorem dX6_stepsAt_16 : decode cX6_stepsAt 16 = .ok (.iaload, 1) := by decide +kernel
theorem dX6_stepsAt_17 : decode cX6_stepsAt 17 = .ok (.goto 4, 3) := by decide +kernel
theorem dX6_stepsAt_20 : decode cX6_stepsAt 20 = .ok (.iconst (-1), 1) := by decide +kernel
theorem dX6_stepsAt_21 : decode cX6_stepsAt 21 = .ok (.ireturn, 1) := by decide +kernel
theorem dX6_nodesOf_0 : decode cX6_nodesOf 0 = .ok (.aload_n 0, 1) := by decide +kernel
theorem dX6_nodesOf_1 : decode cX6_nodesOf 1 = .ok (.invokevirtual 36, 3) := by decide +kernel
theorem dX6_nodesOf_4 : decode cX6_nodesOf 4 = .ok (.iconst 0, 1) := by decide +kernel
theorem dX6_nodesOf_5 : decode cX6_nodesOf 5 = .ok (.istore_n 2, 1) := by decide +kernel
theorem dX6_nodesOf_6 : decode cX6_nodesOf 6 = .ok (.iconst 1, 1) := by decide +kernel
theorem dX6_nodesOf_7 : decode cX6_nodesOf 7 = .ok (.istore_n 3, 1) := by decide +kernel
theorem dX6_nodesOf_8 : decode cX6_nodesOf 8 = .ok (.iload_n 3, 1) := by decide +kernel
theorem dX6_nodesOf_9 : decode cX6_nodesOf 9 = .ok (.bipush 127, 2) := by decide +kernel
theorem dX6_nodesOf_11 : decode cX6_nodesOf 11 = .ok (.if_icmp .gt 22, 3) := by decide +kernel
theorem dX6_nodesOf_14 : decode cX6_nodesOf 14 = .ok (.aload_n 0, 1) := by decide +kernel
theorem dX6_nodesOf_15 : decode cX6_nodesOf 15 = .ok (.getfield 18, 3) := by decide +kernel
theorem dX6_nodesOf_18 : decode cX6_nodesOf 18 = .ok (.iload_n 3, 1) := by decide +kernel
theorem dX6_nodesOf_19 : decode cX6_nodesOf 19 = .ok (.iaload, 1) := by decide +kernel
theorem dX6_nodesOf_20 : decode cX6_nodesOf 20 = .ok (.iload_n 1, 1) := by decide +kernel
theorem dX6_nodesOf_21 : decode cX6_nodesOf 21 = .ok (.if_icmp .ne 6, 3) := by decide +kernel
theorem dX6_nodesOf_24 : decode cX6_nodesOf 24 = .ok (.iinc 2 1, 3) := by decide +kernel
theorem dX6_nodesOf_27 : decode cX6_nodesOf 27 = .ok (.iinc 3 1, 3) := by decide +kernel
theorem dX6_nodesOf_30 : decode cX6_nodesOf 30 = .ok (.goto (-22), 3) := by decide +kernel
theorem dX6_nodesOf_33 : decode cX6_nodesOf 33 = .ok (.iload_n 2, 1) := by decide +kernel
theorem dX6_nodesOf_34 : decode cX6_nodesOf 34 = .ok (.ireturn, 1) := by decide +kernel
theorem dX6_allSteps_0 : decode cX6_allSteps 0 = .ok (.aload_n 0, 1) := by decide +kernel
theorem dX6_allSteps_1 : decode cX6_allSteps 1 = .ok (.invokevirtual 36, 3) := by decide +kernel
theorem dX6_allSteps_4 : decode cX6_allSteps 4 = .ok (.iconst 0, 1) := by decide +kernel
theorem dX6_allSteps_5 : decode cX6_allSteps 5 = .ok (.istore_n 1, 1) := by decide +kernel
theorem dX6_allSteps_6 : decode cX6_allSteps 6 = .ok (.iconst 1, 1) := by decide +kernel
theorem dX6_allSteps_7 : decode cX6_allSteps 7 = .ok (.istore_n 2, 1) := by decide +kernel
theorem dX6_allSteps_8 : decode cX6_allSteps 8 = .ok (.iload_n 2, 1) := by decide +kernel
theorem dX6_allSteps_9 : decode cX6_allSteps 9 = .ok (.bipush 127, 2) := by decide +kernel
theorem dX6_allSteps_11 : decode cX6_allSteps 11 = .ok (.if_icmp .gt 18, 3) := by decide +kernel
theorem dX6_allSteps_14 : decode cX6_allSteps 14 = .ok (.iload_n 1, 1) := by decide +kernel
theorem dX6_allSteps_15 : decode cX6_allSteps 15 = .ok (.aload_n 0, 1) := by decide +kernel
theorem dX6_allSteps_16 : decode cX6_allSteps 16 = .ok (.getfield 21, 3) := by decide +kernel
theorem dX6_allSteps_19 : decode cX6_allSteps 19 = .ok (.iload_n 2, 1) := by decide +kernel
theorem dX6_allSteps_20 : decode cX6_allSteps 20 = .ok (.iaload, 1) := by decide +kernel
theorem dX6_allSteps_21 : decode cX6_allSteps 21 = .ok (.iadd, 1) := by decide +kernel
theorem dX6_allSteps_22 : decode cX6_allSteps 22 = .ok (.istore_n 1, 1) := by decide +kernel
theorem dX6_allSteps_23 : decode cX6_allSteps 23 = .ok (.iinc 2 1, 3) := by decide +kernel
theorem dX6_allSteps_26 : decode cX6_allSteps 26 = .ok (.goto (-18), 3) := by decide +kernel
theorem dX6_allSteps_29 : decode cX6_allSteps 29 = .ok (.iload_n 1, 1) := by decide +kernel
theorem dX6_allSteps_30 : decode cX6_allSteps 30 = .ok (.ireturn, 1) := by decide +kernel
theorem dX6_has_0 : decode cX6_has 0 = .ok (.iload_n 0, 1) := by decide +kernel
theorem dX6_has_1 : decode cX6_has 1 = .ok (.iconst 1, 1) := by decide +kernel
theorem dX6_has_2 : decode cX6_has 2 = .ok (.if_icmp .lt 13, 3) := by decide +kernel
theorem dX6_has_5 : decode cX6_has 5 = .ok (.iload_n 0, 1) := by decide +kernel
theorem dX6_has_6 : decode cX6_has 6 = .ok (.bipush 127, 2) := by decide +kernel
theorem dX6_has_8 : decode cX6_has 8 = .ok (.if_icmp .gt 7, 3) := by decide +kernel
theorem dX6_has_11 : decode cX6_has 11 = .ok (.iconst 1, 1) := by decide +kernel
theorem dX6_has_12 : decode cX6_has 12 = .ok (.goto 4, 3) := by decide +kernel
theorem dX6_has_15 : decode cX6_has 15 = .ok (.iconst 0, 1) := by decide +kernel
theorem dX6_has_16 : decode cX6_has 16 = .ok (.ireturn, 1) := by decide +kernel
theorem dX6_renew_0 : decode cX6_renew 0 = .ok (.aload_n 0, 1) := by decide +kernel
theorem dX6_renew_1 : decode cX6_renew 1 = .ok (.getfield 24, 3) := by decide +kernel
theorem dX6_renew_4 : decode cX6_renew 4 = .ok (.aload_n 0, 1) := by decide +kernel
theorem dX6_renew_5 : decode cX6_renew 5 = .ok (.getfield 28, 3) := by decide +kernel
theorem dX6_renew_8 : decode cX6_renew 8 = .ok (.invokevirtual 39, 3) := by decide +kernel
theorem dX6_renew_11 : decode cX6_renew 11 = .ok (.if_icmp .ne 4, 3) := by decide +kernel
theorem dX6_renew_14 : decode cX6_renew 14 = .ok (.return_, 1) := by decide +kernel
theorem dX6_renew_15 : decode cX6_renew 15 = .ok (.aload_n 0, 1) := by decide +kernel
theorem dX6_renew_16 : decode cX6_renew 16 = .ok (.aload_n 0, 1) := by decide +kernel
theorem dX6_renew_17 : decode cX6_renew 17 = .ok (.getfield 28, 3) := by decide +kernel
theorem dX6_renew_20 : decode cX6_renew 20 = .ok (.invokevirtual 39, 3) := by decide +kernel
theorem dX6_renew_23 : decode cX6_renew 23 = .ok (.putfield 24, 3) := by decide +kernel
theorem dX6_renew_26 : decode cX6_renew 26 = .ok (.aload_n 0, 1) := by decide +kernel
theorem dX6_renew_27 : decode cX6_renew 27 = .ok (.getfield 18, 3) := by decide +kernel
theorem dX6_renew_30 : decode cX6_renew 30 = .ok (.iconst (-1), 1) := by decide +kernel
theorem dX6_renew_31 : decode cX6_renew 31 = .ok (.invokestatic 44, 3) := by decide +kernel
theorem dX6_renew_34 : decode cX6_renew 34 = .ok (.aload_n 0, 1) := by decide +kernel
theorem dX6_renew_35 : decode cX6_renew 35 = .ok (.getfield 21, 3) := by decide +kernel
theorem dX6_renew_38 : decode cX6_renew 38 = .ok (.iconst 0, 1) := by decide +kernel
theorem dX6_renew_39 : decode cX6_renew 39 = .ok (.invokestatic 44, 3) := by decide +kernel
theorem dX6_renew_42 : decode cX6_renew 42 = .ok (.iconst 0, 1) := by decide +kernel
theorem dX6_renew_43 : decode cX6_renew 43 = .ok (.istore_n 1, 1) := by decide +kernel
theorem dX6_renew_44 : decode cX6_renew 44 = .ok (.iload_n 1, 1) := by decide +kernel
theorem dX6_renew_45 : decode cX6_renew 45 = .ok (.aload_n 0, 1) := by decide +kernel
theorem dX6_renew_46 : decode cX6_renew 46 = .ok (.getfield 28, 3) := by decide +kernel
theorem dX6_renew_49 : decode cX6_renew 49 = .ok (.invokevirtual 50, 3) := by decide +kernel
theorem dX6_renew_52 : decode cX6_renew 52 = .ok (.if_icmp .ge 33, 3) := by decide +kernel
theorem dX6_renew_55 : decode cX6_renew 55 = .ok (.aload_n 0, 1) := by decide +kernel
theorem dX6_renew_56 : decode cX6_renew 56 = .ok (.getfield 28, 3) := by decide +kernel
theorem dX6_renew_59 : decode cX6_renew 59 = .ok (.iload_n 1, 1) := by decide +kernel
theorem dX6_renew_60 : decode cX6_renew 60 = .ok (.aload_n 0, 1) := by decide +kernel
theorem dX6_renew_61 : decode cX6_renew 61 = .ok (.getfield 28, 3) := by decide +kernel
theorem dX6_renew_64 : decode cX6_renew 64 = .ok (.invokevirtual 53, 3) := by decide +kernel
theorem dX6_renew_67 : decode cX6_renew 67 = .ok (.invokevirtual 56, 3) := by decide +kernel
theorem dX6_renew_70 : decode cX6_renew 70 = .ok (.ifCond .eq 9, 3) := by decide +kernel
theorem dX6_renew_73 : decode cX6_renew 73 = .ok (.aload_n 0, 1) := by decide +kernel
theorem dX6_renew_74 : decode cX6_renew 74 = .ok (.iload_n 1, 1) := by decide +kernel
theorem dX6_renew_75 : decode cX6_renew 75 = .ok (.iconst 1, 1) := by decide +kernel
theorem dX6_renew_76 : decode cX6_renew 76 = .ok (.invokevirtual 60, 3) := by decide +kernel
theorem dX6_renew_79 : decode cX6_renew 79 = .ok (.iinc 1 1, 3) := by decide +kernel
theorem dX6_renew_82 : decode cX6_renew 82 = .ok (.goto (-38), 3) := by decide +kernel
theorem dX6_renew_85 : decode cX6_renew 85 = .ok (.return_, 1) := by decide +kernel
theorem dX6_put_0 : decode cX6_put 0 = .ok (.iload_n 2, 1) := by decide +kernel
theorem dX6_put_1 : decode cX6_put 1 = .ok (.iconst 1, 1) := by decide +kernel
theorem dX6_put_2 : decode cX6_put 2 = .ok (.if_icmp .lt 9, 3) := by decide +kernel
theorem dX6_put_5 : decode cX6_put 5 = .ok (.iload_n 2, 1) := by decide +kernel
theorem dX6_put_6 : decode cX6_put 6 = .ok (.bipush 127, 2) := by decide +kernel
theorem dX6_put_8 : decode cX6_put 8 = .ok (.if_icmp .le 4, 3) := by decide +kernel
theorem dX6_put_11 : decode cX6_put 11 = .ok (.return_, 1) := by decide +kernel
theorem dX6_put_12 : decode cX6_put 12 = .ok (.aload_n 0, 1) := by decide +kernel
theorem dX6_put_13 : decode cX6_put 13 = .ok (.getfield 9, 3) := by decide +kernel
theorem dX6_put_16 : decode cX6_put 16 = .ok (.iload_n 2, 1) := by decide +kernel
theorem dX6_put_17 : decode cX6_put 17 = .ok (.iaload, 1) := by decide +kernel
theorem dX6_put_18 : decode cX6_put 18 = .ok (.istore_n 3, 1) := by decide +kernel
theorem dX6_put_19 : decode cX6_put 19 = .ok (.aload_n 0, 1) := by decide +kernel
theorem dX6_put_20 : decode cX6_put 20 = .ok (.getfield 15, 3) := by decide +kernel
theorem dX6_put_23 : decode cX6_put 23 = .ok (.iload_n 2, 1) := by decide +kernel
theorem dX6_put_24 : decode cX6_put 24 = .ok (.iaload, 1) := by decide +kernel
theorem dX6_put_25 : decode cX6_put 25 = .ok (.istore 4, 2) := by decide +kernel
theorem dX6_put_27 : decode cX6_put 27 = .ok (.aload_n 0, 1) := by decide +kernel
theorem dX6_put_28 : decode cX6_put 28 = .ok (.getfield 28, 3) := by decide +kernel
theorem dX6_put_31 : decode cX6_put 31 = .ok (.iload_n 1, 1) := by decide +kernel
theorem dX6_put_32 : decode cX6_put 32 = .ok (.iconst 2, 1) := by decide +kernel
theorem dX6_put_33 : decode cX6_put 33 = .ok (.invokevirtual 64, 3) := by decide +kernel
theorem dX6_put_36 : decode cX6_put 36 = .ok (.istore 5, 2) := by decide +kernel
theorem dX6_put_38 : decode cX6_put 38 = .ok (.aload_n 0, 1) := by decide +kernel
theorem dX6_put_39 : decode cX6_put 39 = .ok (.getfield 28, 3) := by decide +kernel
theorem dX6_put_42 : decode cX6_put 42 = .ok (.iload_n 1, 1) := by decide +kernel
theorem dX6_put_43 : decode cX6_put 43 = .ok (.iconst 3, 1) := by decide +kernel
theorem dX6_put_44 : decode cX6_put 44 = .ok (.invokevirtual 64, 3) := by decide +kernel
theorem dX6_put_47 : decode cX6_put 47 = .ok (.istore 6, 2) := by decide +kernel
theorem dX6_put_49 : decode cX6_put 49 = .ok (.iload 6, 2) := by decide +kernel
theorem dX6_put_51 : decode cX6_put 51 = .ok (.iload_n 3, 1) := by decide +kernel
theorem dX6_put_52 : decode cX6_put 52 = .ok (.if_icmp .lt 10, 3) := by decide +kernel
theorem dX6_put_55 : decode cX6_put 55 = .ok (.iload 5, 2) := by decide +kernel
theorem dX6_put_57 : decode cX6_put 57 = .ok (.iload 4, 2) := by decide +kernel
theorem dX6_put_59 : decode cX6_put 59 = .ok (.if_icmp .le 4, 3) := by decide +kernel
theorem dX6_put_62 : decode cX6_put 62 = .ok (.return_, 1) := by decide +kernel
theorem dX6_put_63 : decode cX6_put 63 = .ok (.iload 5, 2) := by decide +kernel
theorem dX6_put_65 : decode cX6_put 65 = .ok (.iload_n 3, 1) := by decide +kernel
theorem dX6_put_66 : decode cX6_put 66 = .ok (.if_icmp .gt 10, 3) := by decide +kernel
theorem dX6_put_69 : decode cX6_put 69 = .ok (.iload 6, 2) := by decide +kernel
theorem dX6_put_71 : decode cX6_put 71 = .ok (.iload 4, 2) := by decide +kernel
theorem dX6_put_73 : decode cX6_put 73 = .ok (.if_icmp .ge 22, 3) := by decide +kernel
theorem dX6_put_76 : decode cX6_put 76 = .ok (.aload_n 0, 1) := by decide +kernel
theorem dX6_put_77 : decode cX6_put 77 = .ok (.iload_n 1, 1) := by decide +kernel
theorem dX6_put_78 : decode cX6_put 78 = .ok (.iconst 2, 1) := by decide +kernel
theorem dX6_put_79 : decode cX6_put 79 = .ok (.iload_n 2, 1) := by decide +kernel
theorem dX6_put_80 : decode cX6_put 80 = .ok (.imul, 1) := by decide +kernel
theorem dX6_put_81 : decode cX6_put 81 = .ok (.invokevirtual 60, 3) := by decide +kernel
theorem dX6_put_84 : decode cX6_put 84 = .ok (.aload_n 0, 1) := by decide +kernel
theorem dX6_put_85 : decode cX6_put 85 = .ok (.iload_n 1, 1) := by decide +kernel
theorem dX6_put_86 : decode cX6_put 86 = .ok (.iconst 2, 1) := by decide +kernel
theorem dX6_put_87 : decode cX6_put 87 = .ok (.iload_n 2, 1) := by decide +kernel
theorem dX6_put_88 : decode cX6_put 88 = .ok (.imul, 1) := by decide +kernel
theorem dX6_put_89 : decode cX6_put 89 = .ok (.iconst 1, 1) := by decide +kernel
theorem dX6_put_90 : decode cX6_put 90 = .ok (.iadd, 1) := by decide +kernel
theorem dX6_put_91 : decode cX6_put 91 = .ok (.invokevirtual 60, 3) := by decide +kernel
theorem dX6_put_94 : decode cX6_put 94 = .ok (.return_, 1) := by decide +kernel
theorem dX6_put_95 : decode cX6_put 95 = .ok (.aload_n 0, 1) := by decide +kernel
theorem dX6_put_96 : decode cX6_put 96 = .ok (.getfield 21, 3) := by decide +kernel
theorem dX6_put_99 : decode cX6_put 99 = .ok (.iload_n 2, 1) := by decide +kernel
theorem dX6_put_100 : decode cX6_put 100 = .ok (.dup2, 1) := by decide +kernel
theorem dX6_put_101 : decode cX6_put 101 = .ok (.iaload, 1) := by decide +kernel
theorem dX6_put_102 : decode cX6_put 102 = .ok (.iconst 1, 1) := by decide +kernel
theorem dX6_put_103 : decode cX6_put 103 = .ok (.iadd, 1) := by decide +kernel
theorem dX6_put_104 : decode cX6_put 104 = .ok (.iastore, 1) := by decide +kernel
theorem dX6_put_105 : decode cX6_put 105 = .ok (.aload_n 0, 1) := by decide +kernel
theorem dX6_put_106 : decode cX6_put 106 = .ok (.getfield 18, 3) := by decide +kernel
theorem dX6_put_109 : decode cX6_put 109 = .ok (.iload_n 2, 1) := by decide +kernel
theorem dX6_put_110 : decode cX6_put 110 = .ok (.iaload, 1) := by decide +kernel
theorem dX6_put_111 : decode cX6_put 111 = .ok (.iconst (-1), 1) := by decide +kernel
theorem dX6_put_112 : decode cX6_put 112 = .ok (.if_icmp .ne 11, 3) := by decide +kernel
theorem dX6_put_115 : decode cX6_put 115 = .ok (.aload_n 0, 1) := by decide +kernel
theorem dX6_put_116 : decode cX6_put 116 = .ok (.getfield 18, 3) := by decide +kernel
theorem dX6_put_119 : decode cX6_put 119 = .ok (.iload_n 2, 1) := by decide +kernel
theorem dX6_put_120 : decode cX6_put 120 = .ok (.iload_n 1, 1) := by decide +kernel
theorem dX6_put_121 : decode cX6_put 121 = .ok (.iastore, 1) := by decide +kernel
theorem dX6_put_122 : decode cX6_put 122 = .ok (.return_, 1) := by decide +kernel
theorem dX6_put_123 : decode cX6_put 123 = .ok (.iload_n 1, 1) := by decide +kernel
theorem dX6_put_124 : decode cX6_put 124 = .ok (.istore 7, 2) := by decide +kernel
theorem dX6_put_126 : decode cX6_put 126 = .ok (.aload_n 0, 1) := by decide +kernel
theorem dX6_put_127 : decode cX6_put 127 = .ok (.getfield 28, 3) := by decide +kernel
theorem dX6_put_130 : decode cX6_put 130 = .ok (.iload_n 1, 1) := by decide +kernel
theorem dX6_put_131 : decode cX6_put 131 = .ok (.aload_n 0, 1) := by decide +kernel
theorem dX6_put_132 : decode cX6_put 132 = .ok (.getfield 18, 3) := by decide +kernel
theorem dX6_put_135 : decode cX6_put 135 = .ok (.iload_n 2, 1) := by decide +kernel
theorem dX6_put_136 : decode cX6_put 136 = .ok (.iaload, 1) := by decide +kernel
theorem dX6_put_137 : decode cX6_put 137 = .ok (.iload_n 3, 1) := by decide +kernel
theorem dX6_put_138 : decode cX6_put 138 = .ok (.iload 4, 2) := by decide +kernel
theorem dX6_put_140 : decode cX6_put 140 = .ok (.iadd, 1) := by decide +kernel
theorem dX6_put_141 : decode cX6_put 141 = .ok (.iconst 2, 1) := by decide +kernel
theorem dX6_put_142 : decode cX6_put 142 = .ok (.idiv, 1) := by decide +kernel
theorem dX6_put_143 : decode cX6_put 143 = .ok (.invokevirtual 68, 3) := by decide +kernel
theorem dX6_put_146 : decode cX6_put 146 = .ok (.ifCond .eq 18, 3) := by decide +kernel
theorem dX6_put_149 : decode cX6_put 149 = .ok (.aload_n 0, 1) := by decide +kernel
theorem dX6_put_150 : decode cX6_put 150 = .ok (.getfield 18, 3) := by decide +kernel
theorem dX6_put_153 : decode cX6_put 153 = .ok (.iload_n 2, 1) := by decide +kernel
theorem dX6_put_154 : decode cX6_put 154 = .ok (.iaload, 1) := by decide +kernel
theorem dX6_put_155 : decode cX6_put 155 = .ok (.istore 7, 2) := by decide +kernel
theorem dX6_put_157 : decode cX6_put 157 = .ok (.aload_n 0, 1) := by decide +kernel
theorem dX6_put_158 : decode cX6_put 158 = .ok (.getfield 18, 3) := by decide +kernel
theorem dX6_put_161 : decode cX6_put 161 = .ok (.iload_n 2, 1) := by decide +kernel
theorem dX6_put_162 : decode cX6_put 162 = .ok (.iload_n 1, 1) := by decide +kernel
theorem dX6_put_163 : decode cX6_put 163 = .ok (.iastore, 1) := by decide +kernel
theorem dX6_put_164 : decode cX6_put 164 = .ok (.iload_n 3, 1) := by decide +kernel
theorem dX6_put_165 : decode cX6_put 165 = .ok (.iload 4, 2) := by decide +kernel
theorem dX6_put_167 : decode cX6_put 167 = .ok (.if_icmp .ne 4, 3) := by decide +kernel
theorem dX6_put_170 : decode cX6_put 170 = .ok (.return_, 1) := by decide +kernel
theorem dX6_put_171 : decode cX6_put 171 = .ok (.aload_n 0, 1) := by decide +kernel
theorem dX6_put_172 : decode cX6_put 172 = .ok (.getfield 28, 3) := by decide +kernel
theorem dX6_put_175 : decode cX6_put 175 = .ok (.iload 7, 2) := by decide +kernel
theorem dX6_put_177 : decode cX6_put 177 = .ok (.aload_n 0, 1) := by decide +kernel
theorem dX6_put_178 : decode cX6_put 178 = .ok (.getfield 18, 3) := by decide +kernel
theorem dX6_put_181 : decode cX6_put 181 = .ok (.iload_n 2, 1) := by decide +kernel
theorem dX6_put_182 : decode cX6_put 182 = .ok (.iaload, 1) := by decide +kernel
theorem dX6_put_183 : decode cX6_put 183 = .ok (.iload_n 3, 1) := by decide +kernel
theorem dX6_put_184 : decode cX6_put 184 = .ok (.invokevirtual 68, 3) := by decide +kernel
theorem dX6_put_187 : decode cX6_put 187 = .ok (.ifCond .eq 15, 3) := by decide +kernel
theorem dX6_put_190 : decode cX6_put 190 = .ok (.aload_n 0, 1) := by decide +kernel
theorem dX6_put_191 : decode cX6_put 191 = .ok (.iload 7, 2) := by decide +kernel
theorem dX6_put_193 : decode cX6_put 193 = .ok (.iconst 2, 1) := by decide +kernel
theorem dX6_put_194 : decode cX6_put 194 = .ok (.iload_n 2, 1) := by decide +kernel
theorem dX6_put_195 : decode cX6_put 195 = .ok (.imul, 1) := by decide +kernel
theorem dX6_put_196 : decode cX6_put 196 = .ok (.invokevirtual 60, 3) := by decide +kernel
theorem dX6_put_199 : decode cX6_put 199 = .ok (.goto 34, 3) := by decide +kernel
theorem dX6_put_202 : decode cX6_put 202 = .ok (.aload_n 0, 1) := by decide +kernel
theorem dX6_put_203 : decode cX6_put 203 = .ok (.getfield 28, 3) := by decide +kernel
theorem dX6_put_206 : decode cX6_put 206 = .ok (.iload 7, 2) := by decide +kernel
theorem dX6_put_208 : decode cX6_put 208 = .ok (.aload_n 0, 1) := by decide +kernel
theorem dX6_put_209 : decode cX6_put 209 = .ok (.getfield 18, 3) := by decide +kernel
theorem dX6_put_212 : decode cX6_put 212 = .ok (.iload_n 2, 1) := by decide +kernel
theorem dX6_put_213 : decode cX6_put 213 = .ok (.iaload, 1) := by decide +kernel
theorem dX6_put_214 : decode cX6_put 214 = .ok (.iload 4, 2) := by decide +kernel
theorem dX6_put_216 : decode cX6_put 216 = .ok (.invokevirtual 68, 3) := by decide +kernel
theorem dX6_put_219 : decode cX6_put 219 = .ok (.ifCond .eq 14, 3) := by decide +kernel
theorem dX6_put_222 : decode cX6_put 222 = .ok (.aload_n 0, 1) := by decide +kernel
theorem dX6_put_223 : decode cX6_put 223 = .ok (.iload 7, 2) := by decide +kernel
theorem dX6_put_225 : decode cX6_put 225 = .ok (.iconst 2, 1) := by decide +kernel
theorem dX6_put_226 : decode cX6_put 226 = .ok (.iload_n 2, 1) := by decide +kernel
theorem dX6_put_227 : decode cX6_put 227 = .ok (.imul, 1) := by decide +kernel
theorem dX6_put_228 : decode cX6_put 228 = .ok (.iconst 1, 1) := by decide +kernel
theorem dX6_put_229 : decode cX6_put 229 = .ok (.iadd, 1) := by decide +kernel
theorem dX6_put_230 : decode cX6_put 230 = .ok (.invokevirtual 60, 3) := by decide +kernel
theorem dX6_put_233 : decode cX6_put 233 = .ok (.return_, 1) := by decide +kernel
theorem dX7_init_0 : decode cX7_init 0 = .ok (.aload_n 0, 1) := by decide +kernel
theorem dX7_init_1 : decode cX7_init 1 = .ok (.invokespecial 1, 3) := by decide +kernel
theorem dX7_init_4 : decode cX7_init 4 = .ok (.aload_n 0, 1) := by decide +kernel
theorem dX7_init_5 : decode cX7_init 5 = .ok (.new 7, 3) := by decide +kernel
theorem dX7_init_8 : decode cX7_init 8 = .ok (.dup, 1) := by decide +kernel
theorem dX7_init_9 : decode cX7_init 9 = .ok (.invokespecial 9, 3) := by decide +kernel
theorem dX7_init_12 : decode cX7_init 12 = .ok (.putfield 10, 3) := by decide +kernel
theorem dX7_init_15 : decode cX7_init 15 = .ok (.aload_n 0, 1) := by decide +kernel
theorem dX7_init_16 : decode cX7_init 16 = .ok (.new 16, 3) := by decide +kernel
theorem dX7_init_19 : decode cX7_init 19 = .ok (.dup, 1) := by decide +kernel
theorem dX7_init_20 : decode cX7_init 20 = .ok (.invokespecial 18, 3) := by decide +kernel
theorem dX7_init_23 : decode cX7_init 23 = .ok (.putfield 19, 3) := by decide +kernel
theorem dX7_init_26 : decode cX7_init 26 = .ok (.aload_n 0, 1) := by decide +kernel
theorem dX7_init_27 : decode cX7_init 27 = .ok (.new 23, 3) := by decide +kernel
theorem dX7_init_30 : decode cX7_init 30 = .ok (.dup, 1) := by decide +kernel
theorem dX7_init_31 : decode cX7_init 31 = .ok (.invokespecial 25, 3) := by decide +kernel
theorem dX7_init_34 : decode cX7_init 34 = .ok (.putfield 26, 3) := by decide +kernel
theorem dX7_init_37 : decode cX7_init 37 = .ok (.aload_n 0, 1) := by decide +kernel
theorem dX7_init_38 : decode cX7_init 38 = .ok (.new 30, 3) := by decide +kernel
theorem dX7_init_41 : decode cX7_init 41 = .ok (.dup, 1) := by decide +kernel
theorem dX7_init_42 : decode cX7_init 42 = .ok (.aload_n 0, 1) := by decide +kernel
theorem dX7_init_43 : decode cX7_init 43 = .ok (.getfield 10, 3) := by decide +kernel
theorem dX7_init_46 : decode cX7_init 46 = .ok (.invokespecial 32, 3) := by decide +kernel
theorem dX7_init_49 : decode cX7_init 49 = .ok (.putfield 35, 3) := by decide +kernel
theorem dX7_init_52 : decode cX7_init 52 = .ok (.aload_n 0, 1) := by decide +kernel
theorem dX7_init_53 : decode cX7_init 53 = .ok (.new 39, 3) := by decide +kernel
theorem dX7_init_56 : decode cX7_init 56 = .ok (.dup, 1) := by decide +kernel
theorem dX7_init_57 : decode cX7_init 57 = .ok (.aload_n 0, 1) := by decide +kernel
theorem dX7_init_58 : decode cX7_init 58 = .ok (.getfield 10, 3) := by decide +kernel
theorem dX7_init_61 : decode cX7_init 61 = .ok (.invokespecial 41, 3) := by decide +kernel
theorem dX7_init_64 : decode cX7_init 64 = .ok (.putfield 42, 3) := by decide +kernel
theorem dX7_init_67 : decode cX7_init 67 = .ok (.aload_n 0, 1) := by decide +kernel
theorem dX7_init_68 : decode cX7_init 68 = .ok (.new 46, 3) := by decide +kernel
theorem dX7_init_71 : decode cX7_init 71 = .ok (.dup, 1) := by decide +kernel
theorem dX7_init_72 : decode cX7_init 72 = .ok (.aload_n 0, 1) := by decide +kernel
theorem dX7_init_73 : decode cX7_init 73 = .ok (.getfield 10, 3) := by decide +kernel
theorem dX7_init_76 : decode cX7_init 76 = .ok (.invokespecial 48, 3) := by decide +kernel
theorem dX7_init_79 : decode cX7_init 79 = .ok (.putfield 49, 3) := by decide +kernel
theorem dX7_init_82 : decode cX7_init 82 = .ok (.return_, 1) := by decide +kernel
theorem dX7_add_0 : decode cX7_add 0 = .ok (.iload_n 1, 1) := by decide +kernel
theorem dX7_add_1 : decode cX7_add 1 = .ok (.invokestatic 53, 3) := by decide +kernel
theorem dX7_add_4 : decode cX7_add 4 = .ok (.ifCond .eq 10, 3) := by decide +kernel
theorem dX7_add_7 : decode cX7_add 7 = .ok (.iload_n 2, 1) := by decide +kernel
theorem dX7_add_8 : decode cX7_add 8 = .ok (.invokestatic 57, 3) := by decide +kernel
theorem dX7_add_11 : decode cX7_add 11 = .ok (.ifCond .ne 13, 3) := by decide +kernel
theorem dX7_add_14 : decode cX7_add 14 = .ok (.new 60, 3) := by decide +kernel
theorem dX7_add_17 : decode cX7_add 17 = .ok (.dup, 1) := by decide +kernel
theorem dX7_add_18 : decode cX7_add 18 = .ok (.ldc 62, 2) := by decide +kernel
theorem dX7_add_20 : decode cX7_add 20 = .ok (.invokespecial 64, 3) := by decide +kernel
theorem dX7_add_23 : decode cX7_add 23 = .ok (.athrow, 1) := by decide +kernel
theorem dX7_add_24 : decode cX7_add 24 = .ok (.aload_n 0, 1) := by decide +kernel
theorem dX7_add_25 : decode cX7_add 25 = .ok (.getfield 10, 3) := by decide +kernel
theorem dX7_add_28 : decode cX7_add 28 = .ok (.invokevirtual 67, 3) := by decide +kernel
theorem dX7_add_31 : decode cX7_add 31 = .ok (.bipush 20, 2) := by decide +kernel
theorem dX7_add_33 : decode cX7_add 33 = .ok (.if_icmp .lt 13, 3) := by decide +kernel
theorem dX7_add_36 : decode cX7_add 36 = .ok (.new 71, 3) := by decide +kernel
theorem dX7_add_39 : decode cX7_add 39 = .ok (.dup, 1) := by decide +kernel
theorem dX7_add_40 : decode cX7_add 40 = .ok (.ldc 73, 2) := by decide +kernel
theorem dX7_add_42 : decode cX7_add 42 = .ok (.invokespecial 75, 3) := by decide +kernel
theorem dX7_add_45 : decode cX7_add 45 = .ok (.athrow, 1) := by decide +kernel
theorem dX7_add_46 : decode cX7_add 46 = .ok (.aload_n 0, 1) := by decide +kernel
theorem dX7_add_47 : decode cX7_add 47 = .ok (.getfield 19, 3) := by decide +kernel
theorem dX7_add_50 : decode cX7_add 50 = .ok (.aload_n 0, 1) := by decide +kernel
theorem dX7_add_51 : decode cX7_add 51 = .ok (.getfield 10, 3) := by decide +kernel
theorem dX7_add_54 : decode cX7_add 54 = .ok (.invokevirtual 76, 3) := by decide +kernel
theorem dX7_add_57 : decode cX7_add 57 = .ok (.aload_n 0, 1) := by decide +kernel
theorem dX7_add_58 : decode cX7_add 58 = .ok (.getfield 10, 3) := by decide +kernel
theorem dX7_add_61 : decode cX7_add 61 = .ok (.iload_n 1, 1) := by decide +kernel
theorem dX7_add_62 : decode cX7_add 62 = .ok (.iload_n 2, 1) := by decide +kernel
theorem dX7_add_63 : decode cX7_add 63 = .ok (.iconst 0, 1) := by decide +kernel
theorem dX7_add_64 : decode cX7_add 64 = .ok (.bipush 99, 2) := by decide +kernel
theorem dX7_add_66 : decode cX7_add 66 = .ok (.invokevirtual 79, 3) := by decide +kernel
theorem dX7_add_69 : decode cX7_add 69 = .ok (.aload_n 0, 1) := by decide +kernel
theorem dX7_add_70 : decode cX7_add 70 = .ok (.getfield 10, 3) := by decide +kernel
theorem dX7_add_73 : decode cX7_add 73 = .ok (.invokevirtual 67, 3) := by decide +kernel
theorem dX7_add_76 : decode cX7_add 76 = .ok (.iconst 1, 1) := by decide +kernel
theorem dX7_add_77 : decode cX7_add 77 = .ok (.isub, 1) := by decide +kernel
theorem dX7_add_78 : decode cX7_add 78 = .ok (.ireturn, 1) := by decide +kernel
theorem dX7_span_0 : decode cX7_span 0 = .ok (.aload_n 0, 1) := by decide +kernel
theorem dX7_span_1 : decode cX7_span 1 = .ok (.getfield 10, 3) := by decide +kernel
theorem dX7_span_4 : decode cX7_span 4 = .ok (.iload_n 1, 1) := by decide +kernel
theorem dX7_span_5 : decode cX7_span 5 = .ok (.invokevirtual 83, 3) := by decide +kernel
theorem dX7_span_8 : decode cX7_span 8 = .ok (.ifCond .ne 13, 3) := by decide +kernel
theorem dX7_span_11 : decode cX7_span 11 = .ok (.new 86, 3) := by decide +kernel
theorem dX7_span_14 : decode cX7_span 14 = .ok (.dup, 1) := by decide +kernel
theorem dX7_span_15 : decode cX7_span 15 = .ok (.ldc 88, 2) := by decide +kernel
theorem dX7_span_17 : decode cX7_span 17 = .ok (.invokespecial 90, 3) := by decide +kernel
theorem dX7_span_20 : decode cX7_span 20 = .ok (.athrow, 1) := by decide +kernel
theorem dX7_span_21 : decode cX7_span 21 = .ok (.iload_n 2, 1) := by decide +kernel
theorem dX7_span_22 : decode cX7_span 22 = .ok (.iload_n 3, 1) := by decide +kernel
theorem dX7_span_23 : decode cX7_span 23 = .ok (.bipush 64, 2) := by decide +kernel
theorem dX7_span_25 : decode cX7_span 25 = .ok (.invokestatic 91, 3) := by decide +kernel
theorem dX7_span_28 : decode cX7_span 28 = .ok (.ifCond .ne 13, 3) := by decide +kernel
theorem dX7_span_31 : decode cX7_span 31 = .ok (.new 60, 3) := by decide +kernel
theorem dX7_span_34 : decode cX7_span 34 = .ok (.dup, 1) := by decide +kernel
theorem dX7_span_35 : decode cX7_span 35 = .ok (.ldc 95, 2) := by decide +kernel
theorem dX7_span_37 : decode cX7_span 37 = .ok (.invokespecial 64, 3) := by decide +kernel
theorem dX7_span_40 : decode cX7_span 40 = .ok (.athrow, 1) := by decide +kernel
theorem dX7_span_41 : decode cX7_span 41 = .ok (.aload_n 0, 1) := by decide +kernel
theorem dX7_span_42 : decode cX7_span 42 = .ok (.iload_n 1, 1) := by decide +kernel
theorem dX7_span_43 : decode cX7_span 43 = .ok (.iconst 2, 1) := by decide +kernel
theorem dX7_span_44 : decode cX7_span 44 = .ok (.iload_n 2, 1) := by decide +kernel
theorem dX7_span_45 : decode cX7_span 45 = .ok (.iconst 3, 1) := by decide +kernel
theorem dX7_span_46 : decode cX7_span 46 = .ok (.iload_n 3, 1) := by decide +kernel
theorem dX7_span_47 : decode cX7_span 47 = .ok (.invokevirtual 97, 3) := by decide +kernel
theorem dX7_span_50 : decode cX7_span 50 = .ok (.ireturn, 1) := by decide +kernel
theorem dX7_live_0 : decode cX7_live 0 = .ok (.aload_n 0, 1) := by decide +kernel
theorem dX7_live_1 : decode cX7_live 1 = .ok (.getfield 10, 3) := by decide +kernel
theorem dX7_live_4 : decode cX7_live 4 = .ok (.iload_n 1, 1) := by decide +kernel
theorem dX7_live_5 : decode cX7_live 5 = .ok (.invokevirtual 83, 3) := by decide +kernel
theorem dX7_live_8 : decode cX7_live 8 = .ok (.ifCond .ne 13, 3) := by decide +kernel
theorem dX7_live_11 : decode cX7_live 11 = .ok (.new 86, 3) := by decide +kernel
theorem dX7_live_14 : decode cX7_live 14 = .ok (.dup, 1) := by decide +kernel
theorem dX7_live_15 : decode cX7_live 15 = .ok (.ldc 88, 2) := by decide +kernel
theorem dX7_live_17 : decode cX7_live 17 = .ok (.invokespecial 90, 3) := by decide +kernel
theorem dX7_live_20 : decode cX7_live 20 = .ok (.athrow, 1) := by decide +kernel
theorem dX7_live_21 : decode cX7_live 21 = .ok (.iload_n 2, 1) := by decide +kernel
theorem dX7_live_22 : decode cX7_live 22 = .ok (.iload_n 3, 1) := by decide +kernel
theorem dX7_live_23 : decode cX7_live 23 = .ok (.bipush 100, 2) := by decide +kernel
theorem dX7_live_25 : decode cX7_live 25 = .ok (.invokestatic 91, 3) := by decide +kernel
theorem dX7_live_28 : decode cX7_live 28 = .ok (.ifCond .ne 13, 3) := by decide +kernel
theorem dX7_live_31 : decode cX7_live 31 = .ok (.new 60, 3) := by decide +kernel
theorem dX7_live_34 : decode cX7_live 34 = .ok (.dup, 1) := by decide +kernel
theorem dX7_live_35 : decode cX7_live 35 = .ok (.ldc 101, 2) := by decide +kernel
theorem dX7_live_37 : decode cX7_live 37 = .ok (.invokespecial 64, 3) := by decide +kernel
theorem dX7_live_40 : decode cX7_live 40 = .ok (.athrow, 1) := by decide +kernel
theorem dX7_live_41 : decode cX7_live 41 = .ok (.aload_n 0, 1) := by decide +kernel
theorem dX7_live_42 : decode cX7_live 42 = .ok (.iload_n 1, 1) := by decide +kernel
theorem dX7_live_43 : decode cX7_live 43 = .ok (.iconst 4, 1) := by decide +kernel
theorem dX7_live_44 : decode cX7_live 44 = .ok (.iload_n 2, 1) := by decide +kernel
theorem dX7_live_45 : decode cX7_live 45 = .ok (.iconst 5, 1) := by decide +kernel
theorem dX7_live_46 : decode cX7_live 46 = .ok (.iload_n 3, 1) := by decide +kernel
theorem dX7_live_47 : decode cX7_live 47 = .ok (.invokevirtual 97, 3) := by decide +kernel
theorem dX7_live_50 : decode cX7_live 50 = .ok (.ireturn, 1) := by decide +kernel
theorem dX7_lift_0 : decode cX7_lift 0 = .ok (.aload_n 0, 1) := by decide +kernel
theorem dX7_lift_1 : decode cX7_lift 1 = .ok (.getfield 10, 3) := by decide +kernel
theorem dX7_lift_4 : decode cX7_lift 4 = .ok (.iload_n 1, 1) := by decide +kernel
theorem dX7_lift_5 : decode cX7_lift 5 = .ok (.invokevirtual 83, 3) := by decide +kernel
theorem dX7_lift_8 : decode cX7_lift 8 = .ok (.ifCond .ne 13, 3) := by decide +kernel
theorem dX7_lift_11 : decode cX7_lift 11 = .ok (.new 86, 3) := by decide +kernel
theorem dX7_lift_14 : decode cX7_lift 14 = .ok (.dup, 1) := by decide +kernel
theorem dX7_lift_15 : decode cX7_lift 15 = .ok (.ldc 88, 2) := by decide +kernel
theorem dX7_lift_17 : decode cX7_lift 17 = .ok (.invokespecial 90, 3) := by decide +kernel
theorem dX7_lift_20 : decode cX7_lift 20 = .ok (.athrow, 1) := by decide +kernel
theorem dX7_lift_21 : decode cX7_lift 21 = .ok (.iload_n 2, 1) := by decide +kernel
theorem dX7_lift_22 : decode cX7_lift 22 = .ok (.invokestatic 57, 3) := by decide +kernel
theorem dX7_lift_25 : decode cX7_lift 25 = .ok (.ifCond .ne 13, 3) := by decide +kernel
theorem dX7_lift_28 : decode cX7_lift 28 = .ok (.new 60, 3) := by decide +kernel
theorem dX7_lift_31 : decode cX7_lift 31 = .ok (.dup, 1) := by decide +kernel
theorem dX7_lift_32 : decode cX7_lift 32 = .ok (.ldc 103, 2) := by decide +kernel
theorem dX7_lift_34 : decode cX7_lift 34 = .ok (.invokespecial 64, 3) := by decide +kernel
theorem dX7_lift_37 : decode cX7_lift 37 = .ok (.athrow, 1) := by decide +kernel
theorem dX7_lift_38 : decode cX7_lift 38 = .ok (.aload_n 0, 1) := by decide +kernel
theorem dX7_lift_39 : decode cX7_lift 39 = .ok (.getfield 10, 3) := by decide +kernel
theorem dX7_lift_42 : decode cX7_lift 42 = .ok (.iload_n 1, 1) := by decide +kernel
theorem dX7_lift_43 : decode cX7_lift 43 = .ok (.iconst 1, 1) := by decide +kernel
theorem dX7_lift_44 : decode cX7_lift 44 = .ok (.invokevirtual 105, 3) := by decide +kernel
theorem dX7_lift_47 : decode cX7_lift 47 = .ok (.iload_n 2, 1) := by decide +kernel
theorem dX7_lift_48 : decode cX7_lift 48 = .ok (.iadd, 1) := by decide +kernel
theorem dX7_lift_49 : decode cX7_lift 49 = .ok (.istore_n 3, 1) := by decide +kernel
theorem dX7_lift_50 : decode cX7_lift 50 = .ok (.iload_n 3, 1) := by decide +kernel
theorem dX7_lift_51 : decode cX7_lift 51 = .ok (.invokestatic 57, 3) := by decide +kernel
theorem dX7_lift_54 : decode cX7_lift 54 = .ok (.ifCond .ne 13, 3) := by decide +kernel
theorem dX7_lift_57 : decode cX7_lift 57 = .ok (.new 71, 3) := by decide +kernel
theorem dX7_lift_60 : decode cX7_lift 60 = .ok (.dup, 1) := by decide +kernel
theorem dX7_lift_61 : decode cX7_lift 61 = .ok (.ldc 109, 2) := by decide +kernel
theorem dX7_lift_63 : decode cX7_lift 63 = .ok (.invokespecial 75, 3) := by decide +kernel
end
section
theorem dX7_lift_66 : decode cX7_lift 66 = .ok (.athrow, 1) := by decide +kernel
theorem dX7_lift_67 : decode cX7_lift 67 = .ok (.aload_n 0, 1) := by decide +kernel
theorem dX7_lift_68 : decode cX7_lift 68 = .ok (.getfield 19, 3) := by decide +kernel
theorem dX7_lift_71 : decode cX7_lift 71 = .ok (.aload_n 0, 1) := by decide +kernel
theorem dX7_lift_72 : decode cX7_lift 72 = .ok (.getfield 10, 3) := by decide +kernel
theorem dX7_lift_75 : decode cX7_lift 75 = .ok (.invokevirtual 76, 3) := by decide +kernel
theorem dX7_lift_78 : decode cX7_lift 78 = .ok (.aload_n 0, 1) := by decide +kernel
theorem dX7_lift_79 : decode cX7_lift 79 = .ok (.getfield 10, 3) := by decide +kernel
theorem dX7_lift_82 : decode cX7_lift 82 = .ok (.iload_n 1, 1) := by decide +kernel
theorem dX7_lift_83 : decode cX7_lift 83 = .ok (.iconst 1, 1) := by decide +kernel
theorem dX7_lift_84 : decode cX7_lift 84 = .ok (.iload_n 3, 1) := by decide +kernel
theorem dX7_lift_85 : decode cX7_lift 85 = .ok (.invokevirtual 111, 3) := by decide +kernel
theorem dX7_lift_88 : decode cX7_lift 88 = .ok (.iload_n 3, 1) := by decide +kernel
theorem dX7_lift_89 : decode cX7_lift 89 = .ok (.ireturn, 1) := by decide +kernel
theorem dX7_turn_0 : decode cX7_turn 0 = .ok (.aload_n 0, 1) := by decide +kernel
theorem dX7_turn_1 : decode cX7_turn 1 = .ok (.getfield 10, 3) := by decide +kernel
theorem dX7_turn_4 : decode cX7_turn 4 = .ok (.iload_n 1, 1) := by decide +kernel
theorem dX7_turn_5 : decode cX7_turn 5 = .ok (.invokevirtual 83, 3) := by decide +kernel
theorem dX7_turn_8 : decode cX7_turn 8 = .ok (.ifCond .ne 13, 3) := by decide +kernel
theorem dX7_turn_11 : decode cX7_turn 11 = .ok (.new 86, 3) := by decide +kernel
theorem dX7_turn_14 : decode cX7_turn 14 = .ok (.dup, 1) := by decide +kernel
theorem dX7_turn_15 : decode cX7_turn 15 = .ok (.ldc 88, 2) := by decide +kernel
theorem dX7_turn_17 : decode cX7_turn 17 = .ok (.invokespecial 90, 3) := by decide +kernel
theorem dX7_turn_20 : decode cX7_turn 20 = .ok (.athrow, 1) := by decide +kernel
theorem dX7_turn_21 : decode cX7_turn 21 = .ok (.iload_n 2, 1) := by decide +kernel
theorem dX7_turn_22 : decode cX7_turn 22 = .ok (.invokestatic 115, 3) := by decide +kernel
theorem dX7_turn_25 : decode cX7_turn 25 = .ok (.ifCond .eq 10, 3) := by decide +kernel
theorem dX7_turn_28 : decode cX7_turn 28 = .ok (.iload_n 3, 1) := by decide +kernel
theorem dX7_turn_29 : decode cX7_turn 29 = .ok (.invokestatic 53, 3) := by decide +kernel
theorem dX7_turn_32 : decode cX7_turn 32 = .ok (.ifCond .ne 13, 3) := by decide +kernel
theorem dX7_turn_35 : decode cX7_turn 35 = .ok (.new 60, 3) := by decide +kernel
theorem dX7_turn_38 : decode cX7_turn 38 = .ok (.dup, 1) := by decide +kernel
theorem dX7_turn_39 : decode cX7_turn 39 = .ok (.ldc 118, 2) := by decide +kernel
theorem dX7_turn_41 : decode cX7_turn 41 = .ok (.invokespecial 64, 3) := by decide +kernel
theorem dX7_turn_44 : decode cX7_turn 44 = .ok (.athrow, 1) := by decide +kernel
theorem dX7_turn_45 : decode cX7_turn 45 = .ok (.aload_n 0, 1) := by decide +kernel
theorem dX7_turn_46 : decode cX7_turn 46 = .ok (.getfield 10, 3) := by decide +kernel
theorem dX7_turn_49 : decode cX7_turn 49 = .ok (.iload_n 1, 1) := by decide +kernel
theorem dX7_turn_50 : decode cX7_turn 50 = .ok (.iload_n 2, 1) := by decide +kernel
theorem dX7_turn_51 : decode cX7_turn 51 = .ok (.invokevirtual 120, 3) := by decide +kernel
theorem dX7_turn_54 : decode cX7_turn 54 = .ok (.iload_n 3, 1) := by decide +kernel
theorem dX7_turn_55 : decode cX7_turn 55 = .ok (.iload_n 2, 1) := by decide +kernel
theorem dX7_turn_56 : decode cX7_turn 56 = .ok (.imul, 1) := by decide +kernel
theorem dX7_turn_57 : decode cX7_turn 57 = .ok (.isub, 1) := by decide +kernel
theorem dX7_turn_58 : decode cX7_turn 58 = .ok (.istore 4, 2) := by decide +kernel
theorem dX7_turn_60 : decode cX7_turn 60 = .ok (.iload 4, 2) := by decide +kernel
theorem dX7_turn_62 : decode cX7_turn 62 = .ok (.invokestatic 57, 3) := by decide +kernel
theorem dX7_turn_65 : decode cX7_turn 65 = .ok (.ifCond .ne 13, 3) := by decide +kernel
theorem dX7_turn_68 : decode cX7_turn 68 = .ok (.new 71, 3) := by decide +kernel
theorem dX7_turn_71 : decode cX7_turn 71 = .ok (.dup, 1) := by decide +kernel
theorem dX7_turn_72 : decode cX7_turn 72 = .ok (.ldc 109, 2) := by decide +kernel
theorem dX7_turn_74 : decode cX7_turn 74 = .ok (.invokespecial 75, 3) := by decide +kernel
theorem dX7_turn_77 : decode cX7_turn 77 = .ok (.athrow, 1) := by decide +kernel
theorem dX7_turn_78 : decode cX7_turn 78 = .ok (.aload_n 0, 1) := by decide +kernel
theorem dX7_turn_79 : decode cX7_turn 79 = .ok (.getfield 19, 3) := by decide +kernel
theorem dX7_turn_82 : decode cX7_turn 82 = .ok (.aload_n 0, 1) := by decide +kernel
theorem dX7_turn_83 : decode cX7_turn 83 = .ok (.getfield 10, 3) := by decide +kernel
theorem dX7_turn_86 : decode cX7_turn 86 = .ok (.invokevirtual 76, 3) := by decide +kernel
theorem dX7_turn_89 : decode cX7_turn 89 = .ok (.aload_n 0, 1) := by decide +kernel
theorem dX7_turn_90 : decode cX7_turn 90 = .ok (.getfield 10, 3) := by decide +kernel
theorem dX7_turn_93 : decode cX7_turn 93 = .ok (.iload_n 1, 1) := by decide +kernel
theorem dX7_turn_94 : decode cX7_turn 94 = .ok (.iconst 0, 1) := by decide +kernel
theorem dX7_turn_95 : decode cX7_turn 95 = .ok (.iload_n 3, 1) := by decide +kernel
theorem dX7_turn_96 : decode cX7_turn 96 = .ok (.invokevirtual 111, 3) := by decide +kernel
theorem dX7_turn_99 : decode cX7_turn 99 = .ok (.aload_n 0, 1) := by decide +kernel
theorem dX7_turn_100 : decode cX7_turn 100 = .ok (.getfield 10, 3) := by decide +kernel
theorem dX7_turn_103 : decode cX7_turn 103 = .ok (.iload_n 1, 1) := by decide +kernel
theorem dX7_turn_104 : decode cX7_turn 104 = .ok (.iconst 1, 1) := by decide +kernel
theorem dX7_turn_105 : decode cX7_turn 105 = .ok (.iload 4, 2) := by decide +kernel
theorem dX7_turn_107 : decode cX7_turn 107 = .ok (.invokevirtual 111, 3) := by decide +kernel
theorem dX7_turn_110 : decode cX7_turn 110 = .ok (.iload 4, 2) := by decide +kernel
theorem dX7_turn_112 : decode cX7_turn 112 = .ok (.ireturn, 1) := by decide +kernel
theorem dX7_remove_0 : decode cX7_remove 0 = .ok (.aload_n 0, 1) := by decide +kernel
theorem dX7_remove_1 : decode cX7_remove 1 = .ok (.getfield 10, 3) := by decide +kernel
theorem dX7_remove_4 : decode cX7_remove 4 = .ok (.iload_n 1, 1) := by decide +kernel
theorem dX7_remove_5 : decode cX7_remove 5 = .ok (.invokevirtual 83, 3) := by decide +kernel
theorem dX7_remove_8 : decode cX7_remove 8 = .ok (.ifCond .ne 13, 3) := by decide +kernel
theorem dX7_remove_11 : decode cX7_remove 11 = .ok (.new 86, 3) := by decide +kernel
theorem dX7_remove_14 : decode cX7_remove 14 = .ok (.dup, 1) := by decide +kernel
theorem dX7_remove_15 : decode cX7_remove 15 = .ok (.ldc 88, 2) := by decide +kernel
theorem dX7_remove_17 : decode cX7_remove 17 = .ok (.invokespecial 90, 3) := by decide +kernel
theorem dX7_remove_20 : decode cX7_remove 20 = .ok (.athrow, 1) := by decide +kernel
theorem dX7_remove_21 : decode cX7_remove 21 = .ok (.aload_n 0, 1) := by decide +kernel
theorem dX7_remove_22 : decode cX7_remove 22 = .ok (.getfield 19, 3) := by decide +kernel
theorem dX7_remove_25 : decode cX7_remove 25 = .ok (.aload_n 0, 1) := by decide +kernel
theorem dX7_remove_26 : decode cX7_remove 26 = .ok (.getfield 10, 3) := by decide +kernel
theorem dX7_remove_29 : decode cX7_remove 29 = .ok (.invokevirtual 76, 3) := by decide +kernel
theorem dX7_remove_32 : decode cX7_remove 32 = .ok (.aload_n 0, 1) := by decide +kernel
theorem dX7_remove_33 : decode cX7_remove 33 = .ok (.getfield 10, 3) := by decide +kernel
theorem dX7_remove_36 : decode cX7_remove 36 = .ok (.iload_n 1, 1) := by decide +kernel
theorem dX7_remove_37 : decode cX7_remove 37 = .ok (.invokevirtual 123, 3) := by decide +kernel
theorem dX7_remove_40 : decode cX7_remove 40 = .ok (.aload_n 0, 1) := by decide +kernel
theorem dX7_remove_41 : decode cX7_remove 41 = .ok (.getfield 10, 3) := by decide +kernel
theorem dX7_remove_44 : decode cX7_remove 44 = .ok (.invokevirtual 67, 3) := by decide +kernel
theorem dX7_remove_47 : decode cX7_remove 47 = .ok (.ireturn, 1) := by decide +kernel
theorem dX7_prune_0 : decode cX7_prune 0 = .ok (.aload_n 0, 1) := by decide +kernel
theorem dX7_prune_1 : decode cX7_prune 1 = .ok (.getfield 49, 3) := by decide +kernel
theorem dX7_prune_4 : decode cX7_prune 4 = .ok (.invokevirtual 127, 3) := by decide +kernel
theorem dX7_prune_7 : decode cX7_prune 7 = .ok (.istore_n 1, 1) := by decide +kernel
theorem dX7_prune_8 : decode cX7_prune 8 = .ok (.aload_n 0, 1) := by decide +kernel
theorem dX7_prune_9 : decode cX7_prune 9 = .ok (.getfield 19, 3) := by decide +kernel
theorem dX7_prune_12 : decode cX7_prune 12 = .ok (.aload_n 0, 1) := by decide +kernel
theorem dX7_prune_13 : decode cX7_prune 13 = .ok (.getfield 10, 3) := by decide +kernel
theorem dX7_prune_16 : decode cX7_prune 16 = .ok (.invokevirtual 76, 3) := by decide +kernel
theorem dX7_prune_19 : decode cX7_prune 19 = .ok (.aload_n 0, 1) := by decide +kernel
theorem dX7_prune_20 : decode cX7_prune 20 = .ok (.getfield 10, 3) := by decide +kernel
theorem dX7_prune_23 : decode cX7_prune 23 = .ok (.invokevirtual 67, 3) := by decide +kernel
theorem dX7_prune_26 : decode cX7_prune 26 = .ok (.iconst 1, 1) := by decide +kernel
theorem dX7_prune_27 : decode cX7_prune 27 = .ok (.isub, 1) := by decide +kernel
theorem dX7_prune_28 : decode cX7_prune 28 = .ok (.istore_n 2, 1) := by decide +kernel
theorem dX7_prune_29 : decode cX7_prune 29 = .ok (.iload_n 2, 1) := by decide +kernel
theorem dX7_prune_30 : decode cX7_prune 30 = .ok (.ifCond .lt 25, 3) := by decide +kernel
theorem dX7_prune_33 : decode cX7_prune 33 = .ok (.iload_n 1, 1) := by decide +kernel
theorem dX7_prune_34 : decode cX7_prune 34 = .ok (.iload_n 2, 1) := by decide +kernel
theorem dX7_prune_35 : decode cX7_prune 35 = .ok (.ishr, 1) := by decide +kernel
theorem dX7_prune_36 : decode cX7_prune 36 = .ok (.iconst 1, 1) := by decide +kernel
theorem dX7_prune_37 : decode cX7_prune 37 = .ok (.iand, 1) := by decide +kernel
theorem dX7_prune_38 : decode cX7_prune 38 = .ok (.ifCond .eq 11, 3) := by decide +kernel
theorem dX7_prune_41 : decode cX7_prune 41 = .ok (.aload_n 0, 1) := by decide +kernel
theorem dX7_prune_42 : decode cX7_prune 42 = .ok (.getfield 10, 3) := by decide +kernel
theorem dX7_prune_45 : decode cX7_prune 45 = .ok (.iload_n 2, 1) := by decide +kernel
theorem dX7_prune_46 : decode cX7_prune 46 = .ok (.invokevirtual 123, 3) := by decide +kernel
theorem dX7_prune_49 : decode cX7_prune 49 = .ok (.iinc 2 (-1), 3) := by decide +kernel
theorem dX7_prune_52 : decode cX7_prune 52 = .ok (.goto (-23), 3) := by decide +kernel
theorem dX7_prune_55 : decode cX7_prune 55 = .ok (.iload_n 1, 1) := by decide +kernel
theorem dX7_prune_56 : decode cX7_prune 56 = .ok (.invokestatic 130, 3) := by decide +kernel
theorem dX7_prune_59 : decode cX7_prune 59 = .ok (.ireturn, 1) := by decide +kernel
theorem dX7_go_0 : decode cX7_go 0 = .ok (.iload_n 1, 1) := by decide +kernel
theorem dX7_go_1 : decode cX7_go 1 = .ok (.invokestatic 136, 3) := by decide +kernel
theorem dX7_go_4 : decode cX7_go 4 = .ok (.ifCond .ne 13, 3) := by decide +kernel
theorem dX7_go_7 : decode cX7_go 7 = .ok (.new 60, 3) := by decide +kernel
theorem dX7_go_10 : decode cX7_go 10 = .ok (.dup, 1) := by decide +kernel
theorem dX7_go_11 : decode cX7_go 11 = .ok (.ldc 139, 2) := by decide +kernel
theorem dX7_go_13 : decode cX7_go 13 = .ok (.invokespecial 64, 3) := by decide +kernel
theorem dX7_go_16 : decode cX7_go 16 = .ok (.athrow, 1) := by decide +kernel
theorem dX7_go_17 : decode cX7_go 17 = .ok (.aload_n 0, 1) := by decide +kernel
theorem dX7_go_18 : decode cX7_go 18 = .ok (.getfield 10, 3) := by decide +kernel
theorem dX7_go_21 : decode cX7_go 21 = .ok (.invokevirtual 141, 3) := by decide +kernel
theorem dX7_go_24 : decode cX7_go 24 = .ok (.istore_n 2, 1) := by decide +kernel
theorem dX7_go_25 : decode cX7_go 25 = .ok (.aload_n 0, 1) := by decide +kernel
theorem dX7_go_26 : decode cX7_go 26 = .ok (.getfield 19, 3) := by decide +kernel
theorem dX7_go_29 : decode cX7_go 29 = .ok (.aload_n 0, 1) := by decide +kernel
theorem dX7_go_30 : decode cX7_go 30 = .ok (.getfield 10, 3) := by decide +kernel
theorem dX7_go_33 : decode cX7_go 33 = .ok (.invokevirtual 76, 3) := by decide +kernel
theorem dX7_go_36 : decode cX7_go 36 = .ok (.aload_n 0, 1) := by decide +kernel
theorem dX7_go_37 : decode cX7_go 37 = .ok (.getfield 10, 3) := by decide +kernel
theorem dX7_go_40 : decode cX7_go 40 = .ok (.iload_n 1, 1) := by decide +kernel
theorem dX7_go_41 : decode cX7_go 41 = .ok (.invokevirtual 144, 3) := by decide +kernel
theorem dX7_go_44 : decode cX7_go 44 = .ok (.iload_n 2, 1) := by decide +kernel
theorem dX7_go_45 : decode cX7_go 45 = .ok (.ireturn, 1) := by decide +kernel
theorem dX7_undo_0 : decode cX7_undo 0 = .ok (.aload_n 0, 1) := by decide +kernel
theorem dX7_undo_1 : decode cX7_undo 1 = .ok (.getfield 19, 3) := by decide +kernel
theorem dX7_undo_4 : decode cX7_undo 4 = .ok (.invokevirtual 177, 3) := by decide +kernel
theorem dX7_undo_7 : decode cX7_undo 7 = .ok (.ifCond .ne 13, 3) := by decide +kernel
theorem dX7_undo_10 : decode cX7_undo 10 = .ok (.new 71, 3) := by decide +kernel
theorem dX7_undo_13 : decode cX7_undo 13 = .ok (.dup, 1) := by decide +kernel
theorem dX7_undo_14 : decode cX7_undo 14 = .ok (.ldc 178, 2) := by decide +kernel
theorem dX7_undo_16 : decode cX7_undo 16 = .ok (.invokespecial 75, 3) := by decide +kernel
theorem dX7_undo_19 : decode cX7_undo 19 = .ok (.athrow, 1) := by decide +kernel
theorem dX7_undo_20 : decode cX7_undo 20 = .ok (.aload_n 0, 1) := by decide +kernel
theorem dX7_undo_21 : decode cX7_undo 21 = .ok (.getfield 19, 3) := by decide +kernel
theorem dX7_undo_24 : decode cX7_undo 24 = .ok (.aload_n 0, 1) := by decide +kernel
theorem dX7_undo_25 : decode cX7_undo 25 = .ok (.getfield 10, 3) := by decide +kernel
theorem dX7_undo_28 : decode cX7_undo 28 = .ok (.invokevirtual 180, 3) := by decide +kernel
theorem dX7_undo_31 : decode cX7_undo 31 = .ok (.aload_n 0, 1) := by decide +kernel
theorem dX7_undo_32 : decode cX7_undo 32 = .ok (.getfield 19, 3) := by decide +kernel
theorem dX7_undo_35 : decode cX7_undo 35 = .ok (.invokevirtual 177, 3) := by decide +kernel
theorem dX7_undo_38 : decode cX7_undo 38 = .ok (.ireturn, 1) := by decide +kernel
theorem dX7_line_0 : decode cX7_line 0 = .ok (.aload_n 0, 1) := by decide +kernel
theorem dX7_line_1 : decode cX7_line 1 = .ok (.getfield 10, 3) := by decide +kernel
theorem dX7_line_4 : decode cX7_line 4 = .ok (.iload_n 1, 1) := by decide +kernel
theorem dX7_line_5 : decode cX7_line 5 = .ok (.invokevirtual 83, 3) := by decide +kernel
theorem dX7_line_8 : decode cX7_line 8 = .ok (.ifCond .ne 13, 3) := by decide +kernel
theorem dX7_line_11 : decode cX7_line 11 = .ok (.new 86, 3) := by decide +kernel
theorem dX7_line_14 : decode cX7_line 14 = .ok (.dup, 1) := by decide +kernel
theorem dX7_line_15 : decode cX7_line 15 = .ok (.ldc 88, 2) := by decide +kernel
theorem dX7_line_17 : decode cX7_line 17 = .ok (.invokespecial 90, 3) := by decide +kernel
theorem dX7_line_20 : decode cX7_line 20 = .ok (.athrow, 1) := by decide +kernel
theorem dX7_line_21 : decode cX7_line 21 = .ok (.iload_n 2, 1) := by decide +kernel
theorem dX7_line_22 : decode cX7_line 22 = .ok (.ifCond .lt 9, 3) := by decide +kernel
theorem dX7_line_25 : decode cX7_line 25 = .ok (.iload_n 2, 1) := by decide +kernel
theorem dX7_line_26 : decode cX7_line 26 = .ok (.bipush 8, 2) := by decide +kernel
theorem dX7_line_28 : decode cX7_line 28 = .ok (.if_icmp .le 13, 3) := by decide +kernel
theorem dX7_line_31 : decode cX7_line 31 = .ok (.new 60, 3) := by decide +kernel
theorem dX7_line_34 : decode cX7_line 34 = .ok (.dup, 1) := by decide +kernel
theorem dX7_line_35 : decode cX7_line 35 = .ok (.ldc 183, 2) := by decide +kernel
theorem dX7_line_37 : decode cX7_line 37 = .ok (.invokespecial 64, 3) := by decide +kernel
theorem dX7_line_40 : decode cX7_line 40 = .ok (.athrow, 1) := by decide +kernel
theorem dX7_line_41 : decode cX7_line 41 = .ok (.iload_n 2, 1) := by decide +kernel
theorem dX7_line_42 : decode cX7_line 42 = .ok (.tableswitch 53 6 8 #[26, 35, 44], 26) := by decide +kernel
theorem dX7_line_68 : decode cX7_line 68 = .ok (.aload_n 0, 1) := by decide +kernel
theorem dX7_line_69 : decode cX7_line 69 = .ok (.getfield 35, 3) := by decide +kernel
theorem dX7_line_72 : decode cX7_line 72 = .ok (.iload_n 1, 1) := by decide +kernel
theorem dX7_line_73 : decode cX7_line 73 = .ok (.invokevirtual 185, 3) := by decide +kernel
theorem dX7_line_76 : decode cX7_line 76 = .ok (.ireturn, 1) := by decide +kernel
theorem dX7_line_77 : decode cX7_line 77 = .ok (.aload_n 0, 1) := by decide +kernel
theorem dX7_line_78 : decode cX7_line 78 = .ok (.getfield 42, 3) := by decide +kernel
theorem dX7_line_81 : decode cX7_line 81 = .ok (.iload_n 1, 1) := by decide +kernel
theorem dX7_line_82 : decode cX7_line 82 = .ok (.invokevirtual 188, 3) := by decide +kernel
theorem dX7_line_85 : decode cX7_line 85 = .ok (.ireturn, 1) := by decide +kernel
theorem dX7_line_86 : decode cX7_line 86 = .ok (.aload_n 0, 1) := by decide +kernel
theorem dX7_line_87 : decode cX7_line 87 = .ok (.getfield 49, 3) := by decide +kernel
theorem dX7_line_90 : decode cX7_line 90 = .ok (.iload_n 1, 1) := by decide +kernel
theorem dX7_line_91 : decode cX7_line 91 = .ok (.invokevirtual 191, 3) := by decide +kernel
theorem dX7_line_94 : decode cX7_line 94 = .ok (.ireturn, 1) := by decide +kernel
theorem dX7_line_95 : decode cX7_line 95 = .ok (.aload_n 0, 1) := by decide +kernel
theorem dX7_line_96 : decode cX7_line 96 = .ok (.getfield 10, 3) := by decide +kernel
theorem dX7_line_99 : decode cX7_line 99 = .ok (.iload_n 1, 1) := by decide +kernel
theorem dX7_line_100 : decode cX7_line 100 = .ok (.iload_n 2, 1) := by decide +kernel
theorem dX7_line_101 : decode cX7_line 101 = .ok (.invokevirtual 105, 3) := by decide +kernel
theorem dX7_line_104 : decode cX7_line 104 = .ok (.ireturn, 1) := by decide +kernel
theorem dX7_lowest_0 : decode cX7_lowest 0 = .ok (.iload_n 1, 1) := by decide +kernel
theorem dX7_lowest_1 : decode cX7_lowest 1 = .ok (.invokestatic 115, 3) := by decide +kernel
theorem dX7_lowest_4 : decode cX7_lowest 4 = .ok (.ifCond .eq 10, 3) := by decide +kernel
theorem dX7_lowest_7 : decode cX7_lowest 7 = .ok (.iload_n 2, 1) := by decide +kernel
theorem dX7_lowest_8 : decode cX7_lowest 8 = .ok (.invokestatic 136, 3) := by decide +kernel
theorem dX7_lowest_11 : decode cX7_lowest 11 = .ok (.ifCond .ne 13, 3) := by decide +kernel
theorem dX7_lowest_14 : decode cX7_lowest 14 = .ok (.new 60, 3) := by decide +kernel
theorem dX7_lowest_17 : decode cX7_lowest 17 = .ok (.dup, 1) := by decide +kernel
theorem dX7_lowest_18 : decode cX7_lowest 18 = .ok (.ldc 194, 2) := by decide +kernel
theorem dX7_lowest_20 : decode cX7_lowest 20 = .ok (.invokespecial 64, 3) := by decide +kernel
theorem dX7_lowest_23 : decode cX7_lowest 23 = .ok (.athrow, 1) := by decide +kernel
theorem dX7_lowest_24 : decode cX7_lowest 24 = .ok (.aload_n 0, 1) := by decide +kernel
theorem dX7_lowest_25 : decode cX7_lowest 25 = .ok (.getfield 10, 3) := by decide +kernel
theorem dX7_lowest_28 : decode cX7_lowest 28 = .ok (.iconst (-1), 1) := by decide +kernel
theorem dX7_lowest_29 : decode cX7_lowest 29 = .ok (.iload_n 1, 1) := by decide +kernel
theorem dX7_lowest_30 : decode cX7_lowest 30 = .ok (.iload_n 2, 1) := by decide +kernel
theorem dX7_lowest_31 : decode cX7_lowest 31 = .ok (.invokevirtual 196, 3) := by decide +kernel
theorem dX7_lowest_34 : decode cX7_lowest 34 = .ok (.ireturn, 1) := by decide +kernel
theorem dX7_value_0 : decode cX7_value 0 = .ok (.iload_n 1, 1) := by decide +kernel
theorem dX7_value_1 : decode cX7_value 1 = .ok (.invokestatic 115, 3) := by decide +kernel
theorem dX7_value_4 : decode cX7_value 4 = .ok (.ifCond .ne 13, 3) := by decide +kernel
theorem dX7_value_7 : decode cX7_value 7 = .ok (.new 60, 3) := by decide +kernel
theorem dX7_value_10 : decode cX7_value 10 = .ok (.dup, 1) := by decide +kernel
theorem dX7_value_11 : decode cX7_value 11 = .ok (.ldc 200, 2) := by decide +kernel
theorem dX7_value_13 : decode cX7_value 13 = .ok (.invokespecial 64, 3) := by decide +kernel
theorem dX7_value_16 : decode cX7_value 16 = .ok (.athrow, 1) := by decide +kernel
theorem dX7_value_17 : decode cX7_value 17 = .ok (.aload_n 0, 1) := by decide +kernel
theorem dX7_value_18 : decode cX7_value 18 = .ok (.getfield 35, 3) := by decide +kernel
theorem dX7_value_21 : decode cX7_value 21 = .ok (.iload_n 1, 1) := by decide +kernel
theorem dX7_value_22 : decode cX7_value 22 = .ok (.invokevirtual 202, 3) := by decide +kernel
theorem dX7_value_25 : decode cX7_value 25 = .ok (.istore_n 2, 1) := by decide +kernel
theorem dX7_value_26 : decode cX7_value 26 = .ok (.iload_n 2, 1) := by decide +kernel
theorem dX7_value_27 : decode cX7_value 27 = .ok (.iconst (-1), 1) := by decide +kernel
theorem dX7_value_28 : decode cX7_value 28 = .ok (.if_icmp .ne 13, 3) := by decide +kernel
theorem dX7_value_31 : decode cX7_value 31 = .ok (.new 71, 3) := by decide +kernel
theorem dX7_value_34 : decode cX7_value 34 = .ok (.dup, 1) := by decide +kernel
theorem dX7_value_35 : decode cX7_value 35 = .ok (.ldc 205, 2) := by decide +kernel
theorem dX7_value_37 : decode cX7_value 37 = .ok (.invokespecial 75, 3) := by decide +kernel
theorem dX7_value_40 : decode cX7_value 40 = .ok (.athrow, 1) := by decide +kernel
theorem dX7_value_41 : decode cX7_value 41 = .ok (.aload_n 0, 1) := by decide +kernel
theorem dX7_value_42 : decode cX7_value 42 = .ok (.getfield 10, 3) := by decide +kernel
theorem dX7_value_45 : decode cX7_value 45 = .ok (.iload_n 2, 1) := by decide +kernel
theorem dX7_value_46 : decode cX7_value 46 = .ok (.iload_n 1, 1) := by decide +kernel
theorem dX7_value_47 : decode cX7_value 47 = .ok (.invokevirtual 120, 3) := by decide +kernel
theorem dX7_value_50 : decode cX7_value 50 = .ok (.ireturn, 1) := by decide +kernel
theorem dX7_ranked_0 : decode cX7_ranked 0 = .ok (.iload_n 1, 1) := by decide +kernel
theorem dX7_ranked_1 : decode cX7_ranked 1 = .ok (.invokestatic 115, 3) := by decide +kernel
theorem dX7_ranked_4 : decode cX7_ranked 4 = .ok (.ifCond .eq 7, 3) := by decide +kernel
theorem dX7_ranked_7 : decode cX7_ranked 7 = .ok (.iload_n 2, 1) := by decide +kernel
theorem dX7_ranked_8 : decode cX7_ranked 8 = .ok (.ifCond .ge 13, 3) := by decide +kernel
theorem dX7_ranked_11 : decode cX7_ranked 11 = .ok (.new 60, 3) := by decide +kernel
theorem dX7_ranked_14 : decode cX7_ranked 14 = .ok (.dup, 1) := by decide +kernel
theorem dX7_ranked_15 : decode cX7_ranked 15 = .ok (.ldc 207, 2) := by decide +kernel
theorem dX7_ranked_17 : decode cX7_ranked 17 = .ok (.invokespecial 64, 3) := by decide +kernel
theorem dX7_ranked_20 : decode cX7_ranked 20 = .ok (.athrow, 1) := by decide +kernel
theorem dX7_ranked_21 : decode cX7_ranked 21 = .ok (.iconst 0, 1) := by decide +kernel
theorem dX7_ranked_22 : decode cX7_ranked 22 = .ok (.istore_n 3, 1) := by decide +kernel
theorem dX7_ranked_23 : decode cX7_ranked 23 = .ok (.iload_n 3, 1) := by decide +kernel
theorem dX7_ranked_24 : decode cX7_ranked 24 = .ok (.aload_n 0, 1) := by decide +kernel
theorem dX7_ranked_25 : decode cX7_ranked 25 = .ok (.getfield 10, 3) := by decide +kernel
theorem dX7_ranked_28 : decode cX7_ranked 28 = .ok (.invokevirtual 67, 3) := by decide +kernel
theorem dX7_ranked_31 : decode cX7_ranked 31 = .ok (.if_icmp .ge 43, 3) := by decide +kernel
theorem dX7_ranked_34 : decode cX7_ranked 34 = .ok (.aload_n 0, 1) := by decide +kernel
theorem dX7_ranked_35 : decode cX7_ranked 35 = .ok (.getfield 10, 3) := by decide +kernel
theorem dX7_ranked_38 : decode cX7_ranked 38 = .ok (.iload_n 3, 1) := by decide +kernel
theorem dX7_ranked_39 : decode cX7_ranked 39 = .ok (.iload_n 1, 1) := by decide +kernel
theorem dX7_ranked_40 : decode cX7_ranked 40 = .ok (.aload_n 0, 1) := by decide +kernel
theorem dX7_ranked_41 : decode cX7_ranked 41 = .ok (.getfield 10, 3) := by decide +kernel
theorem dX7_ranked_44 : decode cX7_ranked 44 = .ok (.invokevirtual 141, 3) := by decide +kernel
theorem dX7_ranked_47 : decode cX7_ranked 47 = .ok (.invokevirtual 209, 3) := by decide +kernel
theorem dX7_ranked_50 : decode cX7_ranked 50 = .ok (.ifCond .eq 18, 3) := by decide +kernel
theorem dX7_ranked_53 : decode cX7_ranked 53 = .ok (.aload_n 0, 1) := by decide +kernel
theorem dX7_ranked_54 : decode cX7_ranked 54 = .ok (.getfield 10, 3) := by decide +kernel
theorem dX7_ranked_57 : decode cX7_ranked 57 = .ok (.iload_n 3, 1) := by decide +kernel
theorem dX7_ranked_58 : decode cX7_ranked 58 = .ok (.iload_n 1, 1) := by decide +kernel
theorem dX7_ranked_59 : decode cX7_ranked 59 = .ok (.invokevirtual 212, 3) := by decide +kernel
theorem dX7_ranked_62 : decode cX7_ranked 62 = .ok (.iload_n 2, 1) := by decide +kernel
theorem dX7_ranked_63 : decode cX7_ranked 63 = .ok (.if_icmp .ne 5, 3) := by decide +kernel
theorem dX7_ranked_66 : decode cX7_ranked 66 = .ok (.iload_n 3, 1) := by decide +kernel
theorem dX7_ranked_67 : decode cX7_ranked 67 = .ok (.ireturn, 1) := by decide +kernel
theorem dX7_ranked_68 : decode cX7_ranked 68 = .ok (.iinc 3 1, 3) := by decide +kernel
theorem dX7_ranked_71 : decode cX7_ranked 71 = .ok (.goto (-48), 3) := by decide +kernel
theorem dX7_ranked_74 : decode cX7_ranked 74 = .ok (.iconst (-1), 1) := by decide +kernel
theorem dX7_ranked_75 : decode cX7_ranked 75 = .ok (.ireturn, 1) := by decide +kernel
theorem dX7_node_0 : decode cX7_node 0 = .ok (.iload_n 1, 1) := by decide +kernel
theorem dX7_node_1 : decode cX7_node 1 = .ok (.iconst 1, 1) := by decide +kernel
theorem dX7_node_2 : decode cX7_node 2 = .ok (.if_icmp .lt 9, 3) := by decide +kernel
theorem dX7_node_5 : decode cX7_node 5 = .ok (.iload_n 1, 1) := by decide +kernel
theorem dX7_node_6 : decode cX7_node 6 = .ok (.bipush 127, 2) := by decide +kernel
theorem dX7_node_8 : decode cX7_node 8 = .ok (.if_icmp .le 13, 3) := by decide +kernel
theorem dX7_node_11 : decode cX7_node 11 = .ok (.new 86, 3) := by decide +kernel
theorem dX7_node_14 : decode cX7_node 14 = .ok (.dup, 1) := by decide +kernel
theorem dX7_node_15 : decode cX7_node 15 = .ok (.ldc 215, 2) := by decide +kernel
theorem dX7_node_17 : decode cX7_node 17 = .ok (.invokespecial 90, 3) := by decide +kernel
theorem dX7_node_20 : decode cX7_node 20 = .ok (.athrow, 1) := by decide +kernel
theorem dX7_node_21 : decode cX7_node 21 = .ok (.iload_n 2, 1) := by decide +kernel
theorem dX7_node_22 : decode cX7_node 22 = .ok (.ifCond .lt 8, 3) := by decide +kernel
theorem dX7_node_25 : decode cX7_node 25 = .ok (.iload_n 2, 1) := by decide +kernel
theorem dX7_node_26 : decode cX7_node 26 = .ok (.iconst 4, 1) := by decide +kernel
theorem dX7_node_27 : decode cX7_node 27 = .ok (.if_icmp .le 13, 3) := by decide +kernel
theorem dX7_node_30 : decode cX7_node 30 = .ok (.new 60, 3) := by decide +kernel
theorem dX7_node_33 : decode cX7_node 33 = .ok (.dup, 1) := by decide +kernel
theorem dX7_node_34 : decode cX7_node 34 = .ok (.ldc 183, 2) := by decide +kernel
theorem dX7_node_36 : decode cX7_node 36 = .ok (.invokespecial 64, 3) := by decide +kernel
theorem dX7_node_39 : decode cX7_node 39 = .ok (.athrow, 1) := by decide +kernel
theorem dX7_node_40 : decode cX7_node 40 = .ok (.iload_n 2, 1) := by decide +kernel
theorem dX7_node_41 : decode cX7_node 41 = .ok (.tableswitch 67 0 3 #[31, 40, 49, 58], 31) := by decide +kernel
theorem dX7_node_72 : decode cX7_node 72 = .ok (.aload_n 0, 1) := by decide +kernel
theorem dX7_node_73 : decode cX7_node 73 = .ok (.getfield 42, 3) := by decide +kernel
theorem dX7_node_76 : decode cX7_node 76 = .ok (.iload_n 1, 1) := by decide +kernel
theorem dX7_node_77 : decode cX7_node 77 = .ok (.invokevirtual 217, 3) := by decide +kernel
theorem dX7_node_80 : decode cX7_node 80 = .ok (.ireturn, 1) := by decide +kernel
theorem dX7_node_81 : decode cX7_node 81 = .ok (.aload_n 0, 1) := by decide +kernel
theorem dX7_node_82 : decode cX7_node 82 = .ok (.getfield 42, 3) := by decide +kernel
theorem dX7_node_85 : decode cX7_node 85 = .ok (.iload_n 1, 1) := by decide +kernel
theorem dX7_node_86 : decode cX7_node 86 = .ok (.invokevirtual 220, 3) := by decide +kernel
theorem dX7_node_89 : decode cX7_node 89 = .ok (.ireturn, 1) := by decide +kernel
theorem dX7_node_90 : decode cX7_node 90 = .ok (.aload_n 0, 1) := by decide +kernel
theorem dX7_node_91 : decode cX7_node 91 = .ok (.getfield 42, 3) := by decide +kernel
theorem dX7_node_94 : decode cX7_node 94 = .ok (.iload_n 1, 1) := by decide +kernel
theorem dX7_node_95 : decode cX7_node 95 = .ok (.invokevirtual 223, 3) := by decide +kernel
theorem dX7_node_98 : decode cX7_node 98 = .ok (.ireturn, 1) := by decide +kernel
theorem dX7_node_99 : decode cX7_node 99 = .ok (.aload_n 0, 1) := by decide +kernel
theorem dX7_node_100 : decode cX7_node 100 = .ok (.getfield 42, 3) := by decide +kernel
theorem dX7_node_103 : decode cX7_node 103 = .ok (.iload_n 1, 1) := by decide +kernel
theorem dX7_node_104 : decode cX7_node 104 = .ok (.invokevirtual 226, 3) := by decide +kernel
theorem dX7_node_107 : decode cX7_node 107 = .ok (.ireturn, 1) := by decide +kernel
theorem dX7_node_108 : decode cX7_node 108 = .ok (.aload_n 0, 1) := by decide +kernel
theorem dX7_node_109 : decode cX7_node 109 = .ok (.getfield 42, 3) := by decide +kernel
theorem dX7_node_112 : decode cX7_node 112 = .ok (.iload_n 1, 1) := by decide +kernel
theorem dX7_node_113 : decode cX7_node 113 = .ok (.invokevirtual 229, 3) := by decide +kernel
theorem dX7_node_116 : decode cX7_node 116 = .ok (.ireturn, 1) := by decide +kernel
theorem dX7_row_0 : decode cX7_row 0 = .ok (.iload_n 1, 1) := by decide +kernel
theorem dX7_row_1 : decode cX7_row 1 = .ok (.ifCond .lt 12, 3) := by decide +kernel
theorem dX7_row_4 : decode cX7_row 4 = .ok (.iload_n 2, 1) := by decide +kernel
theorem dX7_row_5 : decode cX7_row 5 = .ok (.ifCond .lt 8, 3) := by decide +kernel
theorem dX7_row_8 : decode cX7_row 8 = .ok (.iload_n 2, 1) := by decide +kernel
theorem dX7_row_9 : decode cX7_row 9 = .ok (.iconst 2, 1) := by decide +kernel
theorem dX7_row_10 : decode cX7_row 10 = .ok (.if_icmp .le 13, 3) := by decide +kernel
theorem dX7_row_13 : decode cX7_row 13 = .ok (.new 60, 3) := by decide +kernel
theorem dX7_row_16 : decode cX7_row 16 = .ok (.dup, 1) := by decide +kernel
theorem dX7_row_17 : decode cX7_row 17 = .ok (.ldc 232, 2) := by decide +kernel
theorem dX7_row_19 : decode cX7_row 19 = .ok (.invokespecial 64, 3) := by decide +kernel
theorem dX7_row_22 : decode cX7_row 22 = .ok (.athrow, 1) := by decide +kernel
theorem dX7_row_23 : decode cX7_row 23 = .ok (.iload_n 1, 1) := by decide +kernel
theorem dX7_row_24 : decode cX7_row 24 = .ok (.aload_n 0, 1) := by decide +kernel
theorem dX7_row_25 : decode cX7_row 25 = .ok (.getfield 35, 3) := by decide +kernel
theorem dX7_row_28 : decode cX7_row 28 = .ok (.invokevirtual 234, 3) := by decide +kernel
theorem dX7_row_31 : decode cX7_row 31 = .ok (.if_icmp .lt 5, 3) := by decide +kernel
theorem dX7_row_34 : decode cX7_row 34 = .ok (.iconst (-1), 1) := by decide +kernel
theorem dX7_row_35 : decode cX7_row 35 = .ok (.ireturn, 1) := by decide +kernel
theorem dX7_row_36 : decode cX7_row 36 = .ok (.aload_n 0, 1) := by decide +kernel
theorem dX7_row_37 : decode cX7_row 37 = .ok (.getfield 35, 3) := by decide +kernel
theorem dX7_row_40 : decode cX7_row 40 = .ok (.iload_n 1, 1) := by decide +kernel
theorem dX7_row_41 : decode cX7_row 41 = .ok (.invokevirtual 237, 3) := by decide +kernel
theorem dX7_row_44 : decode cX7_row 44 = .ok (.istore_n 3, 1) := by decide +kernel
theorem dX7_row_45 : decode cX7_row 45 = .ok (.iload_n 2, 1) := by decide +kernel
theorem dX7_row_46 : decode cX7_row 46 = .ok (.lookupswitch 41 #[(0, 26), (1, 28)], 26) := by decide +kernel
theorem dX7_row_72 : decode cX7_row 72 = .ok (.iload_n 3, 1) := by decide +kernel
theorem dX7_row_73 : decode cX7_row 73 = .ok (.ireturn, 1) := by decide +kernel
theorem dX7_row_74 : decode cX7_row 74 = .ok (.aload_n 0, 1) := by decide +kernel
theorem dX7_row_75 : decode cX7_row 75 = .ok (.getfield 35, 3) := by decide +kernel
theorem dX7_row_78 : decode cX7_row 78 = .ok (.iload_n 1, 1) := by decide +kernel
theorem dX7_row_79 : decode cX7_row 79 = .ok (.iconst 1, 1) := by decide +kernel
theorem dX7_row_80 : decode cX7_row 80 = .ok (.iadd, 1) := by decide +kernel
theorem dX7_row_81 : decode cX7_row 81 = .ok (.invokevirtual 237, 3) := by decide +kernel
theorem dX7_row_84 : decode cX7_row 84 = .ok (.iload_n 3, 1) := by decide +kernel
theorem dX7_row_85 : decode cX7_row 85 = .ok (.isub, 1) := by decide +kernel
theorem dX7_row_86 : decode cX7_row 86 = .ok (.ireturn, 1) := by decide +kernel
theorem dX7_row_87 : decode cX7_row 87 = .ok (.aload_n 0, 1) := by decide +kernel
theorem dX7_row_88 : decode cX7_row 88 = .ok (.getfield 35, 3) := by decide +kernel
theorem dX7_row_91 : decode cX7_row 91 = .ok (.iload_n 3, 1) := by decide +kernel
theorem dX7_row_92 : decode cX7_row 92 = .ok (.invokevirtual 202, 3) := by decide +kernel
theorem dX7_row_95 : decode cX7_row 95 = .ok (.ireturn, 1) := by decide +kernel
theorem dX7_sum_0 : decode cX7_sum 0 = .ok (.iload_n 1, 1) := by decide +kernel
theorem dX7_sum_1 : decode cX7_sum 1 = .ok (.iload_n 2, 1) := by decide +kernel
theorem dX7_sum_2 : decode cX7_sum 2 = .ok (.bipush 64, 2) := by decide +kernel
theorem dX7_sum_4 : decode cX7_sum 4 = .ok (.invokestatic 91, 3) := by decide +kernel
theorem dX7_sum_7 : decode cX7_sum 7 = .ok (.ifCond .ne 13, 3) := by decide +kernel
theorem dX7_sum_10 : decode cX7_sum 10 = .ok (.new 60, 3) := by decide +kernel
theorem dX7_sum_13 : decode cX7_sum 13 = .ok (.dup, 1) := by decide +kernel
theorem dX7_sum_14 : decode cX7_sum 14 = .ok (.ldc 95, 2) := by decide +kernel
theorem dX7_sum_16 : decode cX7_sum 16 = .ok (.invokespecial 64, 3) := by decide +kernel
theorem dX7_sum_19 : decode cX7_sum 19 = .ok (.athrow, 1) := by decide +kernel
theorem dX7_sum_20 : decode cX7_sum 20 = .ok (.iconst 0, 1) := by decide +kernel
theorem dX7_sum_21 : decode cX7_sum 21 = .ok (.istore_n 3, 1) := by decide +kernel
theorem dX7_sum_22 : decode cX7_sum 22 = .ok (.iload_n 1, 1) := by decide +kernel
theorem dX7_sum_23 : decode cX7_sum 23 = .ok (.istore 4, 2) := by decide +kernel
theorem dX7_sum_25 : decode cX7_sum 25 = .ok (.iload 4, 2) := by decide +kernel
theorem dX7_sum_27 : decode cX7_sum 27 = .ok (.iload_n 2, 1) := by decide +kernel
theorem dX7_sum_28 : decode cX7_sum 28 = .ok (.if_icmp .gt 40, 3) := by decide +kernel
theorem dX7_sum_31 : decode cX7_sum 31 = .ok (.aload_n 0, 1) := by decide +kernel
theorem dX7_sum_32 : decode cX7_sum 32 = .ok (.getfield 35, 3) := by decide +kernel
theorem dX7_sum_35 : decode cX7_sum 35 = .ok (.iload 4, 2) := by decide +kernel
theorem dX7_sum_37 : decode cX7_sum 37 = .ok (.invokevirtual 202, 3) := by decide +kernel
theorem dX7_sum_40 : decode cX7_sum 40 = .ok (.istore 5, 2) := by decide +kernel
theorem dX7_sum_42 : decode cX7_sum 42 = .ok (.iload 5, 2) := by decide +kernel
theorem dX7_sum_44 : decode cX7_sum 44 = .ok (.iconst (-1), 1) := by decide +kernel
theorem dX7_sum_45 : decode cX7_sum 45 = .ok (.if_icmp .eq 17, 3) := by decide +kernel
theorem dX7_sum_48 : decode cX7_sum 48 = .ok (.iload_n 3, 1) := by decide +kernel
theorem dX7_sum_49 : decode cX7_sum 49 = .ok (.aload_n 0, 1) := by decide +kernel
theorem dX7_sum_50 : decode cX7_sum 50 = .ok (.getfield 10, 3) := by decide +kernel
theorem dX7_sum_53 : decode cX7_sum 53 = .ok (.iload 5, 2) := by decide +kernel
theorem dX7_sum_55 : decode cX7_sum 55 = .ok (.iload 4, 2) := by decide +kernel
theorem dX7_sum_57 : decode cX7_sum 57 = .ok (.invokevirtual 120, 3) := by decide +kernel
theorem dX7_sum_60 : decode cX7_sum 60 = .ok (.iadd, 1) := by decide +kernel
theorem dX7_sum_61 : decode cX7_sum 61 = .ok (.istore_n 3, 1) := by decide +kernel
theorem dX7_sum_62 : decode cX7_sum 62 = .ok (.iinc 4 1, 3) := by decide +kernel
theorem dX7_sum_65 : decode cX7_sum 65 = .ok (.goto (-40), 3) := by decide +kernel
theorem dX7_sum_68 : decode cX7_sum 68 = .ok (.iload_n 3, 1) := by decide +kernel
theorem dX7_sum_69 : decode cX7_sum 69 = .ok (.ireturn, 1) := by decide +kernel
theorem dX7_count_0 : decode cX7_count 0 = .ok (.iload_n 1, 1) := by decide +kernel
theorem dX7_count_1 : decode cX7_count 1 = .ok (.tableswitch 131 0 8 #[51, 59, 67, 75, 83, 92, 100, 112, 123], 51) := by decide +kernel
theorem dX7_count_52 : decode cX7_count 52 = .ok (.aload_n 0, 1) := by decide +kernel
theorem dX7_count_53 : decode cX7_count 53 = .ok (.getfield 10, 3) := by decide +kernel
theorem dX7_count_56 : decode cX7_count 56 = .ok (.invokevirtual 141, 3) := by decide +kernel
theorem dX7_count_59 : decode cX7_count 59 = .ok (.ireturn, 1) := by decide +kernel
theorem dX7_count_60 : decode cX7_count 60 = .ok (.aload_n 0, 1) := by decide +kernel
theorem dX7_count_61 : decode cX7_count 61 = .ok (.getfield 10, 3) := by decide +kernel
theorem dX7_count_64 : decode cX7_count 64 = .ok (.invokevirtual 67, 3) := by decide +kernel
theorem dX7_count_67 : decode cX7_count 67 = .ok (.ireturn, 1) := by decide +kernel
theorem dX7_count_68 : decode cX7_count 68 = .ok (.aload_n 0, 1) := by decide +kernel
theorem dX7_count_69 : decode cX7_count 69 = .ok (.getfield 10, 3) := by decide +kernel
theorem dX7_count_72 : decode cX7_count 72 = .ok (.invokevirtual 240, 3) := by decide +kernel
theorem dX7_count_75 : decode cX7_count 75 = .ok (.ireturn, 1) := by decide +kernel
theorem dX7_count_76 : decode cX7_count 76 = .ok (.aload_n 0, 1) := by decide +kernel
theorem dX7_count_77 : decode cX7_count 77 = .ok (.getfield 35, 3) := by decide +kernel
theorem dX7_count_80 : decode cX7_count 80 = .ok (.invokevirtual 234, 3) := by decide +kernel
theorem dX7_count_83 : decode cX7_count 83 = .ok (.ireturn, 1) := by decide +kernel
theorem dX7_count_84 : decode cX7_count 84 = .ok (.aload_n 0, 1) := by decide +kernel
theorem dX7_count_85 : decode cX7_count 85 = .ok (.getfield 35, 3) := by decide +kernel
theorem dX7_count_88 : decode cX7_count 88 = .ok (.iconst (-1), 1) := by decide +kernel
theorem dX7_count_89 : decode cX7_count 89 = .ok (.invokevirtual 185, 3) := by decide +kernel
theorem dX7_count_92 : decode cX7_count 92 = .ok (.ireturn, 1) := by decide +kernel
theorem dX7_count_93 : decode cX7_count 93 = .ok (.aload_n 0, 1) := by decide +kernel
theorem dX7_count_94 : decode cX7_count 94 = .ok (.getfield 42, 3) := by decide +kernel
theorem dX7_count_97 : decode cX7_count 97 = .ok (.invokevirtual 243, 3) := by decide +kernel
theorem dX7_count_100 : decode cX7_count 100 = .ok (.ireturn, 1) := by decide +kernel
theorem dX7_count_101 : decode cX7_count 101 = .ok (.bipush 127, 2) := by decide +kernel
theorem dX7_count_103 : decode cX7_count 103 = .ok (.aload_n 0, 1) := by decide +kernel
theorem dX7_count_104 : decode cX7_count 104 = .ok (.getfield 42, 3) := by decide +kernel
theorem dX7_count_107 : decode cX7_count 107 = .ok (.iconst (-1), 1) := by decide +kernel
theorem dX7_count_108 : decode cX7_count 108 = .ok (.invokevirtual 188, 3) := by decide +kernel
theorem dX7_count_111 : decode cX7_count 111 = .ok (.isub, 1) := by decide +kernel
theorem dX7_count_112 : decode cX7_count 112 = .ok (.ireturn, 1) := by decide +kernel
theorem dX7_count_113 : decode cX7_count 113 = .ok (.aload_n 0, 1) := by decide +kernel
theorem dX7_count_114 : decode cX7_count 114 = .ok (.getfield 49, 3) := by decide +kernel
theorem dX7_count_117 : decode cX7_count 117 = .ok (.invokevirtual 127, 3) := by decide +kernel
theorem dX7_count_120 : decode cX7_count 120 = .ok (.invokestatic 130, 3) := by decide +kernel
theorem dX7_count_123 : decode cX7_count 123 = .ok (.ireturn, 1) := by decide +kernel
theorem dX7_count_124 : decode cX7_count 124 = .ok (.aload_n 0, 1) := by decide +kernel
theorem dX7_count_125 : decode cX7_count 125 = .ok (.getfield 19, 3) := by decide +kernel
theorem dX7_count_128 : decode cX7_count 128 = .ok (.invokevirtual 177, 3) := by decide +kernel
theorem dX7_count_131 : decode cX7_count 131 = .ok (.ireturn, 1) := by decide +kernel
theorem dX7_count_132 : decode cX7_count 132 = .ok (.new 60, 3) := by decide +kernel
theorem dX7_count_135 : decode cX7_count 135 = .ok (.dup, 1) := by decide +kernel
theorem dX7_count_136 : decode cX7_count 136 = .ok (.ldc 246, 2) := by decide +kernel
theorem dX7_count_138 : decode cX7_count 138 = .ok (.invokespecial 64, 3) := by decide +kernel
theorem dX7_count_141 : decode cX7_count 141 = .ok (.athrow, 1) := by decide +kernel
theorem dX7_worth_0 : decode cX7_worth 0 = .ok (.aload_n 0, 1) := by decide +kernel
theorem dX7_worth_1 : decode cX7_worth 1 = .ok (.getfield 10, 3) := by decide +kernel
theorem dX7_worth_4 : decode cX7_worth 4 = .ok (.iload_n 1, 1) := by decide +kernel
theorem dX7_worth_5 : decode cX7_worth 5 = .ok (.invokevirtual 83, 3) := by decide +kernel
theorem dX7_worth_8 : decode cX7_worth 8 = .ok (.ifCond .ne 13, 3) := by decide +kernel
theorem dX7_worth_11 : decode cX7_worth 11 = .ok (.new 86, 3) := by decide +kernel
theorem dX7_worth_14 : decode cX7_worth 14 = .ok (.dup, 1) := by decide +kernel
theorem dX7_worth_15 : decode cX7_worth 15 = .ok (.ldc 88, 2) := by decide +kernel
theorem dX7_worth_17 : decode cX7_worth 17 = .ok (.invokespecial 90, 3) := by decide +kernel
theorem dX7_worth_20 : decode cX7_worth 20 = .ok (.athrow, 1) := by decide +kernel
theorem dX7_worth_21 : decode cX7_worth 21 = .ok (.iconst 0, 1) := by decide +kernel
theorem dX7_worth_22 : decode cX7_worth 22 = .ok (.istore_n 2, 1) := by decide +kernel
theorem dX7_worth_23 : decode cX7_worth 23 = .ok (.iconst 0, 1) := by decide +kernel
theorem dX7_worth_24 : decode cX7_worth 24 = .ok (.istore_n 3, 1) := by decide +kernel
theorem dX7_worth_25 : decode cX7_worth 25 = .ok (.iload_n 3, 1) := by decide +kernel
theorem dX7_worth_26 : decode cX7_worth 26 = .ok (.bipush 64, 2) := by decide +kernel
theorem dX7_worth_28 : decode cX7_worth 28 = .ok (.if_icmp .ge 70, 3) := by decide +kernel
theorem dX7_worth_31 : decode cX7_worth 31 = .ok (.aload_n 0, 1) := by decide +kernel
theorem dX7_worth_32 : decode cX7_worth 32 = .ok (.getfield 35, 3) := by decide +kernel
theorem dX7_worth_35 : decode cX7_worth 35 = .ok (.iload_n 3, 1) := by decide +kernel
theorem dX7_worth_36 : decode cX7_worth 36 = .ok (.invokevirtual 202, 3) := by decide +kernel
theorem dX7_worth_39 : decode cX7_worth 39 = .ok (.iload_n 1, 1) := by decide +kernel
theorem dX7_worth_40 : decode cX7_worth 40 = .ok (.if_icmp .ne 52, 3) := by decide +kernel
theorem dX7_worth_43 : decode cX7_worth 43 = .ok (.aload_n 0, 1) := by decide +kernel
theorem dX7_worth_44 : decode cX7_worth 44 = .ok (.getfield 10, 3) := by decide +kernel
theorem dX7_worth_47 : decode cX7_worth 47 = .ok (.iload_n 1, 1) := by decide +kernel
theorem dX7_worth_48 : decode cX7_worth 48 = .ok (.iload_n 3, 1) := by decide +kernel
theorem dX7_worth_49 : decode cX7_worth 49 = .ok (.aload_n 0, 1) := by decide +kernel
theorem dX7_worth_50 : decode cX7_worth 50 = .ok (.getfield 10, 3) := by decide +kernel
theorem dX7_worth_53 : decode cX7_worth 53 = .ok (.invokevirtual 141, 3) := by decide +kernel
theorem dX7_worth_56 : decode cX7_worth 56 = .ok (.invokevirtual 196, 3) := by decide +kernel
theorem dX7_worth_59 : decode cX7_worth 59 = .ok (.istore 4, 2) := by decide +kernel
theorem dX7_worth_61 : decode cX7_worth 61 = .ok (.iload 4, 2) := by decide +kernel
theorem dX7_worth_63 : decode cX7_worth 63 = .ok (.iconst (-1), 1) := by decide +kernel
theorem dX7_worth_64 : decode cX7_worth 64 = .ok (.if_icmp .ne 5, 3) := by decide +kernel
theorem dX7_worth_67 : decode cX7_worth 67 = .ok (.iconst (-1), 1) := by decide +kernel
theorem dX7_worth_68 : decode cX7_worth 68 = .ok (.ireturn, 1) := by decide +kernel
theorem dX7_worth_69 : decode cX7_worth 69 = .ok (.iload_n 2, 1) := by decide +kernel
theorem dX7_worth_70 : decode cX7_worth 70 = .ok (.aload_n 0, 1) := by decide +kernel
theorem dX7_worth_71 : decode cX7_worth 71 = .ok (.getfield 10, 3) := by decide +kernel
theorem dX7_worth_74 : decode cX7_worth 74 = .ok (.iload 4, 2) := by decide +kernel
theorem dX7_worth_76 : decode cX7_worth 76 = .ok (.iload_n 3, 1) := by decide +kernel
theorem dX7_worth_77 : decode cX7_worth 77 = .ok (.invokevirtual 120, 3) := by decide +kernel
theorem dX7_worth_80 : decode cX7_worth 80 = .ok (.aload_n 0, 1) := by decide +kernel
theorem dX7_worth_81 : decode cX7_worth 81 = .ok (.getfield 10, 3) := by decide +kernel
theorem dX7_worth_84 : decode cX7_worth 84 = .ok (.iload_n 1, 1) := by decide +kernel
theorem dX7_worth_85 : decode cX7_worth 85 = .ok (.iload_n 3, 1) := by decide +kernel
theorem dX7_worth_86 : decode cX7_worth 86 = .ok (.invokevirtual 120, 3) := by decide +kernel
theorem dX7_worth_89 : decode cX7_worth 89 = .ok (.isub, 1) := by decide +kernel
theorem dX7_worth_90 : decode cX7_worth 90 = .ok (.iadd, 1) := by decide +kernel
theorem dX7_worth_91 : decode cX7_worth 91 = .ok (.istore_n 2, 1) := by decide +kernel
theorem dX7_worth_92 : decode cX7_worth 92 = .ok (.iinc 3 1, 3) := by decide +kernel
theorem dX7_worth_95 : decode cX7_worth 95 = .ok (.goto (-70), 3) := by decide +kernel
theorem dX7_worth_98 : decode cX7_worth 98 = .ok (.iload_n 2, 1) := by decide +kernel
theorem dX7_worth_99 : decode cX7_worth 99 = .ok (.ireturn, 1) := by decide +kernel
theorem dX7_mean_0 : decode cX7_mean 0 = .ok (.bipush 64, 2) := by decide +kernel
theorem dX7_mean_2 : decode cX7_mean 2 = .ok (.aload_n 0, 1) := by decide +kernel
theorem dX7_mean_3 : decode cX7_mean 3 = .ok (.getfield 35, 3) := by decide +kernel
theorem dX7_mean_6 : decode cX7_mean 6 = .ok (.iconst (-1), 1) := by decide +kernel
theorem dX7_mean_7 : decode cX7_mean 7 = .ok (.invokevirtual 185, 3) := by decide +kernel
theorem dX7_mean_10 : decode cX7_mean 10 = .ok (.isub, 1) := by decide +kernel
theorem dX7_mean_11 : decode cX7_mean 11 = .ok (.istore_n 1, 1) := by decide +kernel
theorem dX7_mean_12 : decode cX7_mean 12 = .ok (.iload_n 1, 1) := by decide +kernel
theorem dX7_mean_13 : decode cX7_mean 13 = .ok (.ifCond .ne 5, 3) := by decide +kernel
theorem dX7_mean_16 : decode cX7_mean 16 = .ok (.dconst 0, 1) := by decide +kernel
theorem dX7_mean_17 : decode cX7_mean 17 = .ok (.dreturn, 1) := by decide +kernel
theorem dX7_mean_18 : decode cX7_mean 18 = .ok (.aload_n 0, 1) := by decide +kernel
theorem dX7_mean_19 : decode cX7_mean 19 = .ok (.iconst 0, 1) := by decide +kernel
theorem dX7_mean_20 : decode cX7_mean 20 = .ok (.bipush 63, 2) := by decide +kernel
theorem dX7_mean_22 : decode cX7_mean 22 = .ok (.invokevirtual 267, 3) := by decide +kernel
theorem dX7_mean_25 : decode cX7_mean 25 = .ok (.i2d, 1) := by decide +kernel
theorem dX7_mean_26 : decode cX7_mean 26 = .ok (.iload_n 1, 1) := by decide +kernel
theorem dX7_mean_27 : decode cX7_mean 27 = .ok (.i2d, 1) := by decide +kernel
theorem dX7_mean_28 : decode cX7_mean 28 = .ok (.ddiv, 1) := by decide +kernel
theorem dX7_mean_29 : decode cX7_mean 29 = .ok (.dreturn, 1) := by decide +kernel
theorem dX7_isPlace_0 : decode cX7_isPlace 0 = .ok (.iload_n 0, 1) := by decide +kernel
theorem dX7_isPlace_1 : decode cX7_isPlace 1 = .ok (.ifCond .lt 13, 3) := by decide +kernel
theorem dX7_isPlace_4 : decode cX7_isPlace 4 = .ok (.iload_n 0, 1) := by decide +kernel
theorem dX7_isPlace_5 : decode cX7_isPlace 5 = .ok (.bipush 64, 2) := by decide +kernel
theorem dX7_isPlace_7 : decode cX7_isPlace 7 = .ok (.if_icmp .ge 7, 3) := by decide +kernel
theorem dX7_isPlace_10 : decode cX7_isPlace 10 = .ok (.iconst 1, 1) := by decide +kernel
theorem dX7_isPlace_11 : decode cX7_isPlace 11 = .ok (.goto 4, 3) := by decide +kernel
theorem dX7_isPlace_14 : decode cX7_isPlace 14 = .ok (.iconst 0, 1) := by decide +kernel
theorem dX7_isPlace_15 : decode cX7_isPlace 15 = .ok (.ireturn, 1) := by decide +kernel
theorem dX7_isMoment_0 : decode cX7_isMoment 0 = .ok (.iload_n 0, 1) := by decide +kernel
theorem dX7_isMoment_1 : decode cX7_isMoment 1 = .ok (.ifCond .lt 13, 3) := by decide +kernel
theorem dX7_isMoment_4 : decode cX7_isMoment 4 = .ok (.iload_n 0, 1) := by decide +kernel
theorem dX7_isMoment_5 : decode cX7_isMoment 5 = .ok (.bipush 100, 2) := by decide +kernel
theorem dX7_isMoment_7 : decode cX7_isMoment 7 = .ok (.if_icmp .ge 7, 3) := by decide +kernel
theorem dX7_isMoment_10 : decode cX7_isMoment 10 = .ok (.iconst 1, 1) := by decide +kernel
theorem dX7_isMoment_11 : decode cX7_isMoment 11 = .ok (.goto 4, 3) := by decide +kernel
theorem dX7_isMoment_14 : decode cX7_isMoment 14 = .ok (.iconst 0, 1) := by decide +kernel
theorem dX7_isMoment_15 : decode cX7_isMoment 15 = .ok (.ireturn, 1) := by decide +kernel
theorem dX7_isSlope_0 : decode cX7_isSlope 0 = .ok (.iload_n 0, 1) := by decide +kernel
theorem dX7_isSlope_1 : decode cX7_isSlope 1 = .ok (.bipush (-99), 2) := by decide +kernel
theorem dX7_isSlope_3 : decode cX7_isSlope 3 = .ok (.if_icmp .lt 13, 3) := by decide +kernel
theorem dX7_isSlope_6 : decode cX7_isSlope 6 = .ok (.iload_n 0, 1) := by decide +kernel
theorem dX7_isSlope_7 : decode cX7_isSlope 7 = .ok (.bipush 99, 2) := by decide +kernel
theorem dX7_isSlope_9 : decode cX7_isSlope 9 = .ok (.if_icmp .gt 7, 3) := by decide +kernel
theorem dX7_isSlope_12 : decode cX7_isSlope 12 = .ok (.iconst 1, 1) := by decide +kernel
theorem dX7_isSlope_13 : decode cX7_isSlope 13 = .ok (.goto 4, 3) := by decide +kernel
theorem dX7_isSlope_16 : decode cX7_isSlope 16 = .ok (.iconst 0, 1) := by decide +kernel
theorem dX7_isSlope_17 : decode cX7_isSlope 17 = .ok (.ireturn, 1) := by decide +kernel
theorem dX7_isOffset_0 : decode cX7_isOffset 0 = .ok (.iload_n 0, 1) := by decide +kernel
theorem dX7_isOffset_1 : decode cX7_isOffset 1 = .ok (.sipush (-9999), 3) := by decide +kernel
theorem dX7_isOffset_4 : decode cX7_isOffset 4 = .ok (.if_icmp .lt 14, 3) := by decide +kernel
theorem dX7_isOffset_7 : decode cX7_isOffset 7 = .ok (.iload_n 0, 1) := by decide +kernel
theorem dX7_isOffset_8 : decode cX7_isOffset 8 = .ok (.sipush 9999, 3) := by decide +kernel
theorem dX7_isOffset_11 : decode cX7_isOffset 11 = .ok (.if_icmp .gt 7, 3) := by decide +kernel
theorem dX7_isOffset_14 : decode cX7_isOffset 14 = .ok (.iconst 1, 1) := by decide +kernel
theorem dX7_isOffset_15 : decode cX7_isOffset 15 = .ok (.goto 4, 3) := by decide +kernel
theorem dX7_isOffset_18 : decode cX7_isOffset 18 = .ok (.iconst 0, 1) := by decide +kernel
theorem dX7_isOffset_19 : decode cX7_isOffset 19 = .ok (.ireturn, 1) := by decide +kernel
theorem dX7_isStretch_0 : decode cX7_isStretch 0 = .ok (.iload_n 0, 1) := by decide +kernel
theorem dX7_isStretch_1 : decode cX7_isStretch 1 = .ok (.ifCond .lt 17, 3) := by decide +kernel
theorem dX7_isStretch_4 : decode cX7_isStretch 4 = .ok (.iload_n 0, 1) := by decide +kernel
theorem dX7_isStretch_5 : decode cX7_isStretch 5 = .ok (.iload_n 1, 1) := by decide +kernel
theorem dX7_isStretch_6 : decode cX7_isStretch 6 = .ok (.if_icmp .gt 12, 3) := by decide +kernel
theorem dX7_isStretch_9 : decode cX7_isStretch 9 = .ok (.iload_n 1, 1) := by decide +kernel
theorem dX7_isStretch_10 : decode cX7_isStretch 10 = .ok (.iload_n 2, 1) := by decide +kernel
theorem dX7_isStretch_11 : decode cX7_isStretch 11 = .ok (.if_icmp .ge 7, 3) := by decide +kernel
theorem dX7_isStretch_14 : decode cX7_isStretch 14 = .ok (.iconst 1, 1) := by decide +kernel
theorem dX7_isStretch_15 : decode cX7_isStretch 15 = .ok (.goto 4, 3) := by decide +kernel
theorem dX7_isStretch_18 : decode cX7_isStretch 18 = .ok (.iconst 0, 1) := by decide +kernel
theorem dX7_isStretch_19 : decode cX7_isStretch 19 = .ok (.ireturn, 1) := by decide +kernel
theorem dX7_changeStretch_0 : decode cX7_changeStretch 0 = .ok (.aload_n 0, 1) := by decide +kernel
theorem dX7_changeStretch_1 : decode cX7_changeStretch 1 = .ok (.getfield 10, 3) := by decide +kernel
theorem dX7_changeStretch_4 : decode cX7_changeStretch 4 = .ok (.iload_n 1, 1) := by decide +kernel
theorem dX7_changeStretch_5 : decode cX7_changeStretch 5 = .ok (.iload 4, 2) := by decide +kernel
theorem dX7_changeStretch_7 : decode cX7_changeStretch 7 = .ok (.invokevirtual 105, 3) := by decide +kernel
theorem dX7_changeStretch_10 : decode cX7_changeStretch 10 = .ok (.aload_n 0, 1) := by decide +kernel
theorem dX7_changeStretch_11 : decode cX7_changeStretch 11 = .ok (.getfield 10, 3) := by decide +kernel
theorem dX7_changeStretch_14 : decode cX7_changeStretch 14 = .ok (.iload_n 1, 1) := by decide +kernel
theorem dX7_changeStretch_15 : decode cX7_changeStretch 15 = .ok (.iload_n 2, 1) := by decide +kernel
theorem dX7_changeStretch_16 : decode cX7_changeStretch 16 = .ok (.invokevirtual 105, 3) := by decide +kernel
theorem dX7_changeStretch_19 : decode cX7_changeStretch 19 = .ok (.isub, 1) := by decide +kernel
theorem dX7_changeStretch_20 : decode cX7_changeStretch 20 = .ok (.iconst 1, 1) := by decide +kernel
theorem dX7_changeStretch_21 : decode cX7_changeStretch 21 = .ok (.iadd, 1) := by decide +kernel
theorem dX7_changeStretch_22 : decode cX7_changeStretch 22 = .ok (.istore 6, 2) := by decide +kernel
theorem dX7_changeStretch_24 : decode cX7_changeStretch 24 = .ok (.aload_n 0, 1) := by decide +kernel
theorem dX7_changeStretch_25 : decode cX7_changeStretch 25 = .ok (.getfield 19, 3) := by decide +kernel
theorem dX7_changeStretch_28 : decode cX7_changeStretch 28 = .ok (.aload_n 0, 1) := by decide +kernel
theorem dX7_changeStretch_29 : decode cX7_changeStretch 29 = .ok (.getfield 10, 3) := by decide +kernel
theorem dX7_changeStretch_32 : decode cX7_changeStretch 32 = .ok (.invokevirtual 76, 3) := by decide +kernel
theorem dX7_changeStretch_35 : decode cX7_changeStretch 35 = .ok (.aload_n 0, 1) := by decide +kernel
theorem dX7_changeStretch_36 : decode cX7_changeStretch 36 = .ok (.getfield 10, 3) := by decide +kernel
theorem dX7_changeStretch_39 : decode cX7_changeStretch 39 = .ok (.iload_n 1, 1) := by decide +kernel
theorem dX7_changeStretch_40 : decode cX7_changeStretch 40 = .ok (.iload_n 2, 1) := by decide +kernel
theorem dX7_changeStretch_41 : decode cX7_changeStretch 41 = .ok (.iload_n 3, 1) := by decide +kernel
theorem dX7_changeStretch_42 : decode cX7_changeStretch 42 = .ok (.invokevirtual 111, 3) := by decide +kernel
theorem dX7_changeStretch_45 : decode cX7_changeStretch 45 = .ok (.aload_n 0, 1) := by decide +kernel
theorem dX7_changeStretch_46 : decode cX7_changeStretch 46 = .ok (.getfield 10, 3) := by decide +kernel
theorem dX7_changeStretch_49 : decode cX7_changeStretch 49 = .ok (.iload_n 1, 1) := by decide +kernel
theorem dX7_changeStretch_50 : decode cX7_changeStretch 50 = .ok (.iload 4, 2) := by decide +kernel
theorem dX7_changeStretch_52 : decode cX7_changeStretch 52 = .ok (.iload 5, 2) := by decide +kernel
theorem dX7_changeStretch_54 : decode cX7_changeStretch 54 = .ok (.invokevirtual 111, 3) := by decide +kernel
theorem dX7_changeStretch_57 : decode cX7_changeStretch 57 = .ok (.iload 6, 2) := by decide +kernel
theorem dX7_changeStretch_59 : decode cX7_changeStretch 59 = .ok (.ireturn, 1) := by decide +kernel
theorem dJ6_bitCount_0f7a4_0 : decode cJ6_bitCount_0f7a4 0 = .ok (.iload_n 0, 1) := by decide +kernel
theorem dJ6_bitCount_0f7a4_1 : decode cJ6_bitCount_0f7a4 1 = .ok (.iload_n 0, 1) := by decide +kernel
theorem dJ6_bitCount_0f7a4_2 : decode cJ6_bitCount_0f7a4 2 = .ok (.iconst 1, 1) := by decide +kernel
theorem dJ6_bitCount_0f7a4_3 : decode cJ6_bitCount_0f7a4 3 = .ok (.iushr, 1) := by decide +kernel
theorem dJ6_bitCount_0f7a4_4 : decode cJ6_bitCount_0f7a4 4 = .ok (.ldc_w 265, 3) := by decide +kernel
theorem dJ6_bitCount_0f7a4_7 : decode cJ6_bitCount_0f7a4 7 = .ok (.iand, 1) := by decide +kernel
theorem dJ6_bitCount_0f7a4_8 : decode cJ6_bitCount_0f7a4 8 = .ok (.isub, 1) := by decide +kernel
theorem dJ6_bitCount_0f7a4_9 : decode cJ6_bitCount_0f7a4 9 = .ok (.istore_n 0, 1) := by decide +kernel
theorem dJ6_bitCount_0f7a4_10 : decode cJ6_bitCount_0f7a4 10 = .ok (.iload_n 0, 1) := by decide +kernel
theorem dJ6_bitCount_0f7a4_11 : decode cJ6_bitCount_0f7a4 11 = .ok (.ldc_w 266, 3) := by decide +kernel
theorem dJ6_bitCount_0f7a4_14 : decode cJ6_bitCount_0f7a4 14 = .ok (.iand, 1) := by decide +kernel
theorem dJ6_bitCount_0f7a4_15 : decode cJ6_bitCount_0f7a4 15 = .ok (.iload_n 0, 1) := by decide +kernel
theorem dJ6_bitCount_0f7a4_16 : decode cJ6_bitCount_0f7a4 16 = .ok (.iconst 2, 1) := by decide +kernel
theorem dJ6_bitCount_0f7a4_17 : decode cJ6_bitCount_0f7a4 17 = .ok (.iushr, 1) := by decide +kernel
theorem dJ6_bitCount_0f7a4_18 : decode cJ6_bitCount_0f7a4 18 = .ok (.ldc_w 266, 3) := by decide +kernel
theorem dJ6_bitCount_0f7a4_21 : decode cJ6_bitCount_0f7a4 21 = .ok (.iand, 1) := by decide +kernel
theorem dJ6_bitCount_0f7a4_22 : decode cJ6_bitCount_0f7a4 22 = .ok (.iadd, 1) := by decide +kernel
theorem dJ6_bitCount_0f7a4_23 : decode cJ6_bitCount_0f7a4 23 = .ok (.istore_n 0, 1) := by decide +kernel
theorem dJ6_bitCount_0f7a4_24 : decode cJ6_bitCount_0f7a4 24 = .ok (.iload_n 0, 1) := by decide +kernel
theorem dJ6_bitCount_0f7a4_25 : decode cJ6_bitCount_0f7a4 25 = .ok (.iload_n 0, 1) := by decide +kernel
theorem dJ6_bitCount_0f7a4_26 : decode cJ6_bitCount_0f7a4 26 = .ok (.iconst 4, 1) := by decide +kernel
theorem dJ6_bitCount_0f7a4_27 : decode cJ6_bitCount_0f7a4 27 = .ok (.iushr, 1) := by decide +kernel
theorem dJ6_bitCount_0f7a4_28 : decode cJ6_bitCount_0f7a4 28 = .ok (.iadd, 1) := by decide +kernel
theorem dJ6_bitCount_0f7a4_29 : decode cJ6_bitCount_0f7a4 29 = .ok (.ldc_w 267, 3) := by decide +kernel
theorem dJ6_bitCount_0f7a4_32 : decode cJ6_bitCount_0f7a4 32 = .ok (.iand, 1) := by decide +kernel
theorem dJ6_bitCount_0f7a4_33 : decode cJ6_bitCount_0f7a4 33 = .ok (.istore_n 0, 1) := by decide +kernel
theorem dJ6_bitCount_0f7a4_34 : decode cJ6_bitCount_0f7a4 34 = .ok (.iload_n 0, 1) := by decide +kernel
theorem dJ6_bitCount_0f7a4_35 : decode cJ6_bitCount_0f7a4 35 = .ok (.iload_n 0, 1) := by decide +kernel
theorem dJ6_bitCount_0f7a4_36 : decode cJ6_bitCount_0f7a4 36 = .ok (.bipush 8, 2) := by decide +kernel
theorem dJ6_bitCount_0f7a4_38 : decode cJ6_bitCount_0f7a4 38 = .ok (.iushr, 1) := by decide +kernel
theorem dJ6_bitCount_0f7a4_39 : decode cJ6_bitCount_0f7a4 39 = .ok (.iadd, 1) := by decide +kernel
theorem dJ6_bitCount_0f7a4_40 : decode cJ6_bitCount_0f7a4 40 = .ok (.istore_n 0, 1) := by decide +kernel
theorem dJ6_bitCount_0f7a4_41 : decode cJ6_bitCount_0f7a4 41 = .ok (.iload_n 0, 1) := by decide +kernel
theorem dJ6_bitCount_0f7a4_42 : decode cJ6_bitCount_0f7a4 42 = .ok (.iload_n 0, 1) := by decide +kernel
theorem dJ6_bitCount_0f7a4_43 : decode cJ6_bitCount_0f7a4 43 = .ok (.bipush 16, 2) := by decide +kernel
theorem dJ6_bitCount_0f7a4_45 : decode cJ6_bitCount_0f7a4 45 = .ok (.iushr, 1) := by decide +kernel
theorem dJ6_bitCount_0f7a4_46 : decode cJ6_bitCount_0f7a4 46 = .ok (.iadd, 1) := by decide +kernel
theorem dJ6_bitCount_0f7a4_47 : decode cJ6_bitCount_0f7a4 47 = .ok (.istore_n 0, 1) := by decide +kernel
theorem dJ6_bitCount_0f7a4_48 : decode cJ6_bitCount_0f7a4 48 = .ok (.iload_n 0, 1) := by decide +kernel
theorem dJ6_bitCount_0f7a4_49 : decode cJ6_bitCount_0f7a4 49 = .ok (.bipush 63, 2) := by decide +kernel
theorem dJ6_bitCount_0f7a4_51 : decode cJ6_bitCount_0f7a4 51 = .ok (.iand, 1) := by decide +kernel
theorem dJ6_bitCount_0f7a4_52 : decode cJ6_bitCount_0f7a4 52 = .ok (.ireturn, 1) := by decide +kernel
theorem dJ7_fill_53178_0 : decode cJ7_fill_53178 0 = .ok (.iconst 0, 1) := by decide +kernel
theorem dJ7_fill_53178_1 : decode cJ7_fill_53178 1 = .ok (.istore_n 2, 1) := by decide +kernel
theorem dJ7_fill_53178_2 : decode cJ7_fill_53178 2 = .ok (.aload_n 0, 1) := by decide +kernel
theorem dJ7_fill_53178_3 : decode cJ7_fill_53178 3 = .ok (.arraylength, 1) := by decide +kernel
theorem dJ7_fill_53178_4 : decode cJ7_fill_53178 4 = .ok (.istore_n 3, 1) := by decide +kernel
theorem dJ7_fill_53178_5 : decode cJ7_fill_53178 5 = .ok (.iload_n 2, 1) := by decide +kernel
theorem dJ7_fill_53178_6 : decode cJ7_fill_53178 6 = .ok (.iload_n 3, 1) := by decide +kernel
theorem dJ7_fill_53178_7 : decode cJ7_fill_53178 7 = .ok (.if_icmp .ge 13, 3) := by decide +kernel
theorem dJ7_fill_53178_10 : decode cJ7_fill_53178 10 = .ok (.aload_n 0, 1) := by decide +kernel
theorem dJ7_fill_53178_11 : decode cJ7_fill_53178 11 = .ok (.iload_n 2, 1) := by decide +kernel
theorem dJ7_fill_53178_12 : decode cJ7_fill_53178 12 = .ok (.iload_n 1, 1) := by decide +kernel
theorem dJ7_fill_53178_13 : decode cJ7_fill_53178 13 = .ok (.iastore, 1) := by decide +kernel
theorem dJ7_fill_53178_14 : decode cJ7_fill_53178 14 = .ok (.iinc 2 1, 3) := by decide +kernel
theorem dJ7_fill_53178_17 : decode cJ7_fill_53178 17 = .ok (.goto (-12), 3) := by decide +kernel
theorem dJ7_fill_53178_20 : decode cJ7_fill_53178 20 = .ok (.return_, 1) := by decide +kernel
theorem dL_low_0 : decode cL_low 0 = .ok (.iload_n 0, 1) := by decide +kernel
theorem dL_low_1 : decode cL_low 1 = .ok (.ldc 7, 2) := by decide +kernel
theorem dL_low_3 : decode cL_low 3 = .ok (.iand, 1) := by decide +kernel
theorem dL_low_4 : decode cL_low 4 = .ok (.iload_n 1, 1) := by decide +kernel
theorem dL_low_5 : decode cL_low 5 = .ok (.irem, 1) := by decide +kernel
theorem dL_low_6 : decode cL_low 6 = .ok (.ireturn, 1) := by decide +kernel
theorem dL_cell_0 : decode cL_cell 0 = .ok (.iload_n 1, 1) := by decide +kernel
theorem dL_cell_1 : decode cL_cell 1 = .ok (.aload_n 0, 1) := by decide +kernel
theorem dL_cell_2 : decode cL_cell 2 = .ok (.arraylength, 1) := by decide +kernel
theorem dL_cell_3 : decode cL_cell 3 = .ok (.if_icmp .ge 9, 3) := by decide +kernel
theorem dL_cell_6 : decode cL_cell 6 = .ok (.aload_n 0, 1) := by decide +kernel
theorem dL_cell_7 : decode cL_cell 7 = .ok (.iload_n 1, 1) := by decide +kernel
theorem dL_cell_8 : decode cL_cell 8 = .ok (.iaload, 1) := by decide +kernel
theorem dL_cell_9 : decode cL_cell 9 = .ok (.goto 11, 3) := by decide +kernel
theorem dL_cell_12 : decode cL_cell 12 = .ok (.ldc 8, 2) := by decide +kernel
theorem dL_cell_14 : decode cL_cell 14 = .ok (.iload_n 1, 1) := by decide +kernel
theorem dL_cell_15 : decode cL_cell 15 = .ok (.imul, 1) := by decide +kernel
theorem dL_cell_16 : decode cL_cell 16 = .ok (.sipush 977, 3) := by decide +kernel
theorem dL_cell_19 : decode cL_cell 19 = .ok (.iadd, 1) := by decide +kernel
theorem dL_cell_20 : decode cL_cell 20 = .ok (.ireturn, 1) := by decide +kernel
theorem dL_valueOf_0 : decode cL_valueOf 0 = .ok (.aload_n 0, 1) := by decide +kernel
theorem dL_valueOf_1 : decode cL_valueOf 1 = .ok (.iload_n 1, 1) := by decide +kernel
theorem dL_valueOf_2 : decode cL_valueOf 2 = .ok (.iconst 0, 1) := by decide +kernel
theorem dL_valueOf_3 : decode cL_valueOf 3 = .ok (.invokevirtual 9, 3) := by decide +kernel
theorem dL_valueOf_6 : decode cL_valueOf 6 = .ok (.iload_n 2, 1) := by decide +kernel
theorem dL_valueOf_7 : decode cL_valueOf 7 = .ok (.imul, 1) := by decide +kernel
theorem dL_valueOf_8 : decode cL_valueOf 8 = .ok (.aload_n 0, 1) := by decide +kernel
theorem dL_valueOf_9 : decode cL_valueOf 9 = .ok (.iload_n 1, 1) := by decide +kernel
theorem dL_valueOf_10 : decode cL_valueOf 10 = .ok (.iconst 1, 1) := by decide +kernel
theorem dL_valueOf_11 : decode cL_valueOf 11 = .ok (.invokevirtual 9, 3) := by decide +kernel
theorem dL_valueOf_14 : decode cL_valueOf 14 = .ok (.iadd, 1) := by decide +kernel
theorem dL_valueOf_15 : decode cL_valueOf 15 = .ok (.ireturn, 1) := by decide +kernel
theorem dL_counts_0 : decode cL_counts 0 = .ok (.iload_n 2, 1) := by decide +kernel
theorem dL_counts_1 : decode cL_counts 1 = .ok (.aload_n 0, 1) := by decide +kernel
theorem dL_counts_2 : decode cL_counts 2 = .ok (.iload_n 1, 1) := by decide +kernel
theorem dL_counts_3 : decode cL_counts 3 = .ok (.iconst 2, 1) := by decide +kernel
theorem dL_counts_4 : decode cL_counts 4 = .ok (.invokevirtual 9, 3) := by decide +kernel
theorem dL_counts_7 : decode cL_counts 7 = .ok (.if_icmp .lt 37, 3) := by decide +kernel
theorem dL_counts_10 : decode cL_counts 10 = .ok (.iload_n 2, 1) := by decide +kernel
theorem dL_counts_11 : decode cL_counts 11 = .ok (.aload_n 0, 1) := by decide +kernel
theorem dL_counts_12 : decode cL_counts 12 = .ok (.iload_n 1, 1) := by decide +kernel
theorem dL_counts_13 : decode cL_counts 13 = .ok (.iconst 3, 1) := by decide +kernel
theorem dL_counts_14 : decode cL_counts 14 = .ok (.invokevirtual 9, 3) := by decide +kernel
theorem dL_counts_17 : decode cL_counts 17 = .ok (.if_icmp .gt 27, 3) := by decide +kernel
theorem dL_counts_20 : decode cL_counts 20 = .ok (.iload_n 3, 1) := by decide +kernel
theorem dL_counts_21 : decode cL_counts 21 = .ok (.aload_n 0, 1) := by decide +kernel
theorem dL_counts_22 : decode cL_counts 22 = .ok (.iload_n 1, 1) := by decide +kernel
theorem dL_counts_23 : decode cL_counts 23 = .ok (.iconst 4, 1) := by decide +kernel
theorem dL_counts_24 : decode cL_counts 24 = .ok (.invokevirtual 9, 3) := by decide +kernel
theorem dL_counts_27 : decode cL_counts 27 = .ok (.if_icmp .lt 17, 3) := by decide +kernel
theorem dL_counts_30 : decode cL_counts 30 = .ok (.iload_n 3, 1) := by decide +kernel
theorem dL_counts_31 : decode cL_counts 31 = .ok (.aload_n 0, 1) := by decide +kernel
theorem dL_counts_32 : decode cL_counts 32 = .ok (.iload_n 1, 1) := by decide +kernel
theorem dL_counts_33 : decode cL_counts 33 = .ok (.iconst 5, 1) := by decide +kernel
theorem dL_counts_34 : decode cL_counts 34 = .ok (.invokevirtual 9, 3) := by decide +kernel
theorem dL_counts_37 : decode cL_counts 37 = .ok (.if_icmp .gt 7, 3) := by decide +kernel
theorem dL_counts_40 : decode cL_counts 40 = .ok (.iconst 1, 1) := by decide +kernel
theorem dL_counts_41 : decode cL_counts 41 = .ok (.goto 4, 3) := by decide +kernel
theorem dL_counts_44 : decode cL_counts 44 = .ok (.iconst 0, 1) := by decide +kernel
theorem dL_counts_45 : decode cL_counts 45 = .ok (.ireturn, 1) := by decide +kernel
theorem dL_lowest_0 : decode cL_lowest 0 = .ok (.iconst (-1), 1) := by decide +kernel
theorem dL_lowest_1 : decode cL_lowest 1 = .ok (.istore_n 3, 1) := by decide +kernel
theorem dL_lowest_2 : decode cL_lowest 2 = .ok (.iconst 0, 1) := by decide +kernel
theorem dL_lowest_3 : decode cL_lowest 3 = .ok (.istore 4, 2) := by decide +kernel
theorem dL_lowest_5 : decode cL_lowest 5 = .ok (.iload 4, 2) := by decide +kernel
theorem dL_lowest_7 : decode cL_lowest 7 = .ok (.aload_n 0, 1) := by decide +kernel
theorem dL_lowest_8 : decode cL_lowest 8 = .ok (.iconst 1, 1) := by decide +kernel
theorem dL_lowest_9 : decode cL_lowest 9 = .ok (.invokevirtual 15, 3) := by decide +kernel
theorem dL_lowest_12 : decode cL_lowest 12 = .ok (.if_icmp .ge 48, 3) := by decide +kernel
theorem dL_lowest_15 : decode cL_lowest 15 = .ok (.aload_n 0, 1) := by decide +kernel
theorem dL_lowest_16 : decode cL_lowest 16 = .ok (.iload 4, 2) := by decide +kernel
theorem dL_lowest_18 : decode cL_lowest 18 = .ok (.iload_n 1, 1) := by decide +kernel
theorem dL_lowest_19 : decode cL_lowest 19 = .ok (.iload_n 2, 1) := by decide +kernel
theorem dL_lowest_20 : decode cL_lowest 20 = .ok (.invokestatic 19, 3) := by decide +kernel
theorem dL_lowest_23 : decode cL_lowest 23 = .ok (.ifCond .eq 29, 3) := by decide +kernel
theorem dL_lowest_26 : decode cL_lowest 26 = .ok (.iload_n 3, 1) := by decide +kernel
theorem dL_lowest_27 : decode cL_lowest 27 = .ok (.iconst (-1), 1) := by decide +kernel
theorem dL_lowest_28 : decode cL_lowest 28 = .ok (.if_icmp .eq 19, 3) := by decide +kernel
theorem dL_lowest_31 : decode cL_lowest 31 = .ok (.aload_n 0, 1) := by decide +kernel
theorem dL_lowest_32 : decode cL_lowest 32 = .ok (.iload 4, 2) := by decide +kernel
theorem dL_lowest_34 : decode cL_lowest 34 = .ok (.iload_n 1, 1) := by decide +kernel
theorem dL_lowest_35 : decode cL_lowest 35 = .ok (.invokestatic 25, 3) := by decide +kernel
theorem dL_lowest_38 : decode cL_lowest 38 = .ok (.aload_n 0, 1) := by decide +kernel
theorem dL_lowest_39 : decode cL_lowest 39 = .ok (.iload_n 3, 1) := by decide +kernel
theorem dL_lowest_40 : decode cL_lowest 40 = .ok (.iload_n 1, 1) := by decide +kernel
theorem dL_lowest_41 : decode cL_lowest 41 = .ok (.invokestatic 25, 3) := by decide +kernel
theorem dL_lowest_44 : decode cL_lowest 44 = .ok (.if_icmp .ge 8, 3) := by decide +kernel
theorem dL_lowest_47 : decode cL_lowest 47 = .ok (.iload 4, 2) := by decide +kernel
theorem dL_lowest_49 : decode cL_lowest 49 = .ok (.goto 4, 3) := by decide +kernel
theorem dL_lowest_52 : decode cL_lowest 52 = .ok (.iload_n 3, 1) := by decide +kernel
theorem dL_lowest_53 : decode cL_lowest 53 = .ok (.istore_n 3, 1) := by decide +kernel
theorem dL_lowest_54 : decode cL_lowest 54 = .ok (.iinc 4 1, 3) := by decide +kernel
theorem dL_lowest_57 : decode cL_lowest 57 = .ok (.goto (-52), 3) := by decide +kernel
theorem dL_lowest_60 : decode cL_lowest 60 = .ok (.iload_n 3, 1) := by decide +kernel
theorem dL_lowest_61 : decode cL_lowest 61 = .ok (.ireturn, 1) := by decide +kernel
theorem dL_turn_0 : decode cL_turn 0 = .ok (.aload_n 0, 1) := by decide +kernel
theorem dL_turn_1 : decode cL_turn 1 = .ok (.iload_n 1, 1) := by decide +kernel
theorem dL_turn_2 : decode cL_turn 2 = .ok (.iload_n 2, 1) := by decide +kernel
theorem dL_turn_3 : decode cL_turn 3 = .ok (.iload_n 3, 1) := by decide +kernel
theorem dL_turn_4 : decode cL_turn 4 = .ok (.invokevirtual 29, 3) := by decide +kernel
theorem dL_turn_7 : decode cL_turn 7 = .ok (.ireturn, 1) := by decide +kernel
theorem dL_turn_8 : decode cL_turn 8 = .ok (.astore 4, 2) := by decide +kernel
theorem dL_turn_10 : decode cL_turn 10 = .ok (.sipush (-10003), 3) := by decide +kernel
theorem dL_turn_13 : decode cL_turn 13 = .ok (.ireturn, 1) := by decide +kernel
theorem dL_lift_0 : decode cL_lift 0 = .ok (.aload_n 0, 1) := by decide +kernel
theorem dL_lift_1 : decode cL_lift 1 = .ok (.iload_n 1, 1) := by decide +kernel
theorem dL_lift_2 : decode cL_lift 2 = .ok (.iload_n 2, 1) := by decide +kernel
theorem dL_lift_3 : decode cL_lift 3 = .ok (.invokevirtual 35, 3) := by decide +kernel
theorem dL_lift_6 : decode cL_lift 6 = .ok (.ireturn, 1) := by decide +kernel
theorem dL_lift_7 : decode cL_lift 7 = .ok (.astore_n 3, 1) := by decide +kernel
theorem dL_lift_8 : decode cL_lift 8 = .ok (.sipush (-10003), 3) := by decide +kernel
theorem dL_lift_11 : decode cL_lift 11 = .ok (.ireturn, 1) := by decide +kernel
theorem dL_add_0 : decode cL_add 0 = .ok (.aload_n 0, 1) := by decide +kernel
theorem dL_add_1 : decode cL_add 1 = .ok (.iload_n 1, 1) := by decide +kernel
theorem dL_add_2 : decode cL_add 2 = .ok (.iload_n 2, 1) := by decide +kernel
theorem dL_add_3 : decode cL_add 3 = .ok (.invokevirtual 38, 3) := by decide +kernel
theorem dL_add_6 : decode cL_add 6 = .ok (.ireturn, 1) := by decide +kernel
theorem dL_add_7 : decode cL_add 7 = .ok (.astore_n 3, 1) := by decide +kernel
theorem dL_add_8 : decode cL_add 8 = .ok (.bipush (-3), 2) := by decide +kernel
theorem dL_add_10 : decode cL_add 10 = .ok (.ireturn, 1) := by decide +kernel
theorem dL_undo_0 : decode cL_undo 0 = .ok (.aload_n 0, 1) := by decide +kernel
theorem dL_undo_1 : decode cL_undo 1 = .ok (.invokevirtual 41, 3) := by decide +kernel
theorem dL_undo_4 : decode cL_undo 4 = .ok (.ireturn, 1) := by decide +kernel
theorem dL_undo_5 : decode cL_undo 5 = .ok (.astore_n 1, 1) := by decide +kernel
theorem dL_undo_6 : decode cL_undo 6 = .ok (.bipush (-3), 2) := by decide +kernel
theorem dL_undo_8 : decode cL_undo 8 = .ok (.ireturn, 1) := by decide +kernel
theorem dL_value_0 : decode cL_value 0 = .ok (.aload_n 0, 1) := by decide +kernel
theorem dL_value_1 : decode cL_value 1 = .ok (.iload_n 1, 1) := by decide +kernel
theorem dL_value_2 : decode cL_value 2 = .ok (.invokevirtual 45, 3) := by decide +kernel
theorem dL_value_5 : decode cL_value 5 = .ok (.ireturn, 1) := by decide +kernel
theorem dL_value_6 : decode cL_value 6 = .ok (.astore_n 2, 1) := by decide +kernel
theorem dL_value_7 : decode cL_value 7 = .ok (.sipush (-20000), 3) := by decide +kernel
theorem dL_value_10 : decode cL_value 10 = .ok (.ireturn, 1) := by decide +kernel
theorem dL_places_0 : decode cL_places 0 = .ok (.aload_n 0, 1) := by decide +kernel
theorem dL_places_1 : decode cL_places 1 = .ok (.iconst 3, 1) := by decide +kernel
theorem dL_places_2 : decode cL_places 2 = .ok (.invokevirtual 15, 3) := by decide +kernel
theorem dL_places_5 : decode cL_places 5 = .ok (.istore_n 1, 1) := by decide +kernel
theorem dL_places_6 : decode cL_places 6 = .ok (.iconst 0, 1) := by decide +kernel
theorem dL_places_7 : decode cL_places 7 = .ok (.istore_n 2, 1) := by decide +kernel
theorem dL_places_8 : decode cL_places 8 = .ok (.iconst 0, 1) := by decide +kernel
theorem dL_places_9 : decode cL_places 9 = .ok (.istore_n 3, 1) := by decide +kernel
theorem dL_places_10 : decode cL_places 10 = .ok (.iconst 0, 1) := by decide +kernel
theorem dL_places_11 : decode cL_places 11 = .ok (.istore 4, 2) := by decide +kernel
theorem dL_places_13 : decode cL_places 13 = .ok (.bipush (-2), 2) := by decide +kernel
theorem dL_places_15 : decode cL_places 15 = .ok (.istore 5, 2) := by decide +kernel
theorem dL_places_17 : decode cL_places 17 = .ok (.iload_n 1, 1) := by decide +kernel
theorem dL_places_18 : decode cL_places 18 = .ok (.ifCond .le 7, 3) := by decide +kernel
theorem dL_places_21 : decode cL_places 21 = .ok (.iconst 1, 1) := by decide +kernel
theorem dL_places_22 : decode cL_places 22 = .ok (.goto 4, 3) := by decide +kernel
theorem dL_places_25 : decode cL_places 25 = .ok (.iconst 0, 1) := by decide +kernel
theorem dL_places_26 : decode cL_places 26 = .ok (.istore 6, 2) := by decide +kernel
theorem dL_places_28 : decode cL_places 28 = .ok (.iconst 0, 1) := by decide +kernel
theorem dL_places_29 : decode cL_places 29 = .ok (.istore 7, 2) := by decide +kernel
theorem dL_places_31 : decode cL_places 31 = .ok (.iload 7, 2) := by decide +kernel
theorem dL_places_33 : decode cL_places 33 = .ok (.iload_n 1, 1) := by decide +kernel
theorem dL_places_34 : decode cL_places 34 = .ok (.if_icmp .ge 261, 3) := by decide +kernel
theorem dL_places_37 : decode cL_places 37 = .ok (.iload 6, 2) := by decide +kernel
theorem dL_places_39 : decode cL_places 39 = .ok (.ifCond .eq 256, 3) := by decide +kernel
theorem dL_places_42 : decode cL_places 42 = .ok (.aload_n 0, 1) := by decide +kernel
theorem dL_places_43 : decode cL_places 43 = .ok (.iload 7, 2) := by decide +kernel
theorem dL_places_45 : decode cL_places 45 = .ok (.iconst 1, 1) := by decide +kernel
theorem dL_places_46 : decode cL_places 46 = .ok (.invokevirtual 48, 3) := by decide +kernel
theorem dL_places_49 : decode cL_places 49 = .ok (.istore 8, 2) := by decide +kernel
theorem dL_places_51 : decode cL_places 51 = .ok (.aload_n 0, 1) := by decide +kernel
theorem dL_places_52 : decode cL_places 52 = .ok (.iload 7, 2) := by decide +kernel
theorem dL_places_54 : decode cL_places 54 = .ok (.iconst 2, 1) := by decide +kernel
theorem dL_places_55 : decode cL_places 55 = .ok (.invokevirtual 48, 3) := by decide +kernel
theorem dL_places_58 : decode cL_places 58 = .ok (.istore 9, 2) := by decide +kernel
theorem dL_places_60 : decode cL_places 60 = .ok (.aload_n 0, 1) := by decide +kernel
theorem dL_places_61 : decode cL_places 61 = .ok (.iload 7, 2) := by decide +kernel
theorem dL_places_63 : decode cL_places 63 = .ok (.iconst 0, 1) := by decide +kernel
theorem dL_places_64 : decode cL_places 64 = .ok (.invokevirtual 48, 3) := by decide +kernel
theorem dL_places_67 : decode cL_places 67 = .ok (.iload_n 2, 1) := by decide +kernel
theorem dL_places_68 : decode cL_places 68 = .ok (.if_icmp .ne 19, 3) := by decide +kernel
theorem dL_places_71 : decode cL_places 71 = .ok (.iload 8, 2) := by decide +kernel
theorem dL_places_73 : decode cL_places 73 = .ok (.ifCond .le 14, 3) := by decide +kernel
theorem dL_places_76 : decode cL_places 76 = .ok (.iload 9, 2) := by decide +kernel
theorem dL_places_78 : decode cL_places 78 = .ok (.iload 5, 2) := by decide +kernel
theorem dL_places_80 : decode cL_places 80 = .ok (.if_icmp .eq 7, 3) := by decide +kernel
theorem dL_places_83 : decode cL_places 83 = .ok (.iconst 1, 1) := by decide +kernel
theorem dL_places_84 : decode cL_places 84 = .ok (.goto 4, 3) := by decide +kernel
theorem dL_places_87 : decode cL_places 87 = .ok (.iconst 0, 1) := by decide +kernel
theorem dL_places_88 : decode cL_places 88 = .ok (.istore 6, 2) := by decide +kernel
theorem dL_places_90 : decode cL_places 90 = .ok (.iload_n 2, 1) := by decide +kernel
theorem dL_places_91 : decode cL_places 91 = .ok (.istore 10, 2) := by decide +kernel
theorem dL_places_93 : decode cL_places 93 = .ok (.iload 10, 2) := by decide +kernel
theorem dL_places_95 : decode cL_places 95 = .ok (.iload_n 2, 1) := by decide +kernel
theorem dL_places_96 : decode cL_places 96 = .ok (.iload 8, 2) := by decide +kernel
theorem dL_places_98 : decode cL_places 98 = .ok (.iadd, 1) := by decide +kernel
theorem dL_places_99 : decode cL_places 99 = .ok (.if_icmp .ge 181, 3) := by decide +kernel
theorem dL_places_102 : decode cL_places 102 = .ok (.iload 6, 2) := by decide +kernel
theorem dL_places_104 : decode cL_places 104 = .ok (.ifCond .eq 176, 3) := by decide +kernel
theorem dL_places_107 : decode cL_places 107 = .ok (.aload_n 0, 1) := by decide +kernel
theorem dL_places_108 : decode cL_places 108 = .ok (.iload 10, 2) := by decide +kernel
theorem dL_places_110 : decode cL_places 110 = .ok (.aload_n 0, 1) := by decide +kernel
theorem dL_places_111 : decode cL_places 111 = .ok (.iconst 0, 1) := by decide +kernel
theorem dL_places_112 : decode cL_places 112 = .ok (.invokevirtual 15, 3) := by decide +kernel
theorem dL_places_115 : decode cL_places 115 = .ok (.invokevirtual 51, 3) := by decide +kernel
theorem dL_places_118 : decode cL_places 118 = .ok (.iload 9, 2) := by decide +kernel
theorem dL_places_120 : decode cL_places 120 = .ok (.if_icmp .ne 63, 3) := by decide +kernel
theorem dL_places_123 : decode cL_places 123 = .ok (.aload_n 0, 1) := by decide +kernel
theorem dL_places_124 : decode cL_places 124 = .ok (.iload 10, 2) := by decide +kernel
theorem dL_places_126 : decode cL_places 126 = .ok (.iconst 0, 1) := by decide +kernel
theorem dL_places_127 : decode cL_places 127 = .ok (.invokevirtual 54, 3) := by decide +kernel
theorem dL_places_130 : decode cL_places 130 = .ok (.iload 9, 2) := by decide +kernel
theorem dL_places_132 : decode cL_places 132 = .ok (.if_icmp .ne 51, 3) := by decide +kernel
theorem dL_places_135 : decode cL_places 135 = .ok (.iload 9, 2) := by decide +kernel
theorem dL_places_137 : decode cL_places 137 = .ok (.aload_n 0, 1) := by decide +kernel
theorem dL_places_138 : decode cL_places 138 = .ok (.iload 10, 2) := by decide +kernel
theorem dL_places_140 : decode cL_places 140 = .ok (.aload_n 0, 1) := by decide +kernel
theorem dL_places_141 : decode cL_places 141 = .ok (.iconst 0, 1) := by decide +kernel
theorem dL_places_142 : decode cL_places 142 = .ok (.invokevirtual 15, 3) := by decide +kernel
theorem dL_places_145 : decode cL_places 145 = .ok (.invokestatic 57, 3) := by decide +kernel
theorem dL_places_148 : decode cL_places 148 = .ok (.if_icmp .ne 35, 3) := by decide +kernel
theorem dL_places_151 : decode cL_places 151 = .ok (.aload_n 0, 1) := by decide +kernel
theorem dL_places_152 : decode cL_places 152 = .ok (.iload 10, 2) := by decide +kernel
theorem dL_places_154 : decode cL_places 154 = .ok (.invokestatic 59, 3) := by decide +kernel
theorem dL_places_157 : decode cL_places 157 = .ok (.iload 9, 2) := by decide +kernel
theorem dL_places_159 : decode cL_places 159 = .ok (.ifCond .ge 9, 3) := by decide +kernel
theorem dL_places_162 : decode cL_places 162 = .ok (.sipush (-20000), 3) := by decide +kernel
theorem dL_places_165 : decode cL_places 165 = .ok (.goto 11, 3) := by decide +kernel
theorem dL_places_168 : decode cL_places 168 = .ok (.aload_n 0, 1) := by decide +kernel
theorem dL_places_169 : decode cL_places 169 = .ok (.iload 9, 2) := by decide +kernel
theorem dL_places_171 : decode cL_places 171 = .ok (.iload 10, 2) := by decide +kernel
theorem dL_places_173 : decode cL_places 173 = .ok (.invokestatic 25, 3) := by decide +kernel
theorem dL_places_176 : decode cL_places 176 = .ok (.if_icmp .ne 7, 3) := by decide +kernel
theorem dL_places_179 : decode cL_places 179 = .ok (.iconst 1, 1) := by decide +kernel
theorem dL_places_180 : decode cL_places 180 = .ok (.goto 4, 3) := by decide +kernel
theorem dL_places_183 : decode cL_places 183 = .ok (.iconst 0, 1) := by decide +kernel
theorem dL_places_184 : decode cL_places 184 = .ok (.istore 6, 2) := by decide +kernel
theorem dL_places_186 : decode cL_places 186 = .ok (.aload_n 0, 1) := by decide +kernel
theorem dL_places_187 : decode cL_places 187 = .ok (.iload 10, 2) := by decide +kernel
theorem dL_places_189 : decode cL_places 189 = .ok (.iconst 1, 1) := by decide +kernel
theorem dL_places_190 : decode cL_places 190 = .ok (.invokevirtual 54, 3) := by decide +kernel
theorem dL_places_193 : decode cL_places 193 = .ok (.istore 11, 2) := by decide +kernel
theorem dL_places_195 : decode cL_places 195 = .ok (.iload 6, 2) := by decide +kernel
theorem dL_places_197 : decode cL_places 197 = .ok (.ifCond .eq 39, 3) := by decide +kernel
theorem dL_places_200 : decode cL_places 200 = .ok (.iload 11, 2) := by decide +kernel
theorem dL_places_202 : decode cL_places 202 = .ok (.iconst (-1), 1) := by decide +kernel
theorem dL_places_203 : decode cL_places 203 = .ok (.if_icmp .eq 29, 3) := by decide +kernel
theorem dL_places_206 : decode cL_places 206 = .ok (.iload 11, 2) := by decide +kernel
theorem dL_places_208 : decode cL_places 208 = .ok (.iload 9, 2) := by decide +kernel
theorem dL_places_210 : decode cL_places 210 = .ok (.if_icmp .eq 26, 3) := by decide +kernel
theorem dL_places_213 : decode cL_places 213 = .ok (.aload_n 0, 1) := by decide +kernel
theorem dL_places_214 : decode cL_places 214 = .ok (.iload 11, 2) := by decide +kernel
theorem dL_places_216 : decode cL_places 216 = .ok (.iload 10, 2) := by decide +kernel
theorem dL_places_218 : decode cL_places 218 = .ok (.invokestatic 25, 3) := by decide +kernel
theorem dL_places_221 : decode cL_places 221 = .ok (.aload_n 0, 1) := by decide +kernel
theorem dL_places_222 : decode cL_places 222 = .ok (.iload 9, 2) := by decide +kernel
theorem dL_places_224 : decode cL_places 224 = .ok (.iload 10, 2) := by decide +kernel
theorem dL_places_226 : decode cL_places 226 = .ok (.invokestatic 25, 3) := by decide +kernel
theorem dL_places_229 : decode cL_places 229 = .ok (.if_icmp .lt 7, 3) := by decide +kernel
theorem dL_places_232 : decode cL_places 232 = .ok (.iconst 1, 1) := by decide +kernel
theorem dL_places_233 : decode cL_places 233 = .ok (.goto 4, 3) := by decide +kernel
theorem dL_places_236 : decode cL_places 236 = .ok (.iconst 0, 1) := by decide +kernel
theorem dL_places_237 : decode cL_places 237 = .ok (.istore 6, 2) := by decide +kernel
theorem dL_places_239 : decode cL_places 239 = .ok (.iload_n 3, 1) := by decide +kernel
theorem dL_places_240 : decode cL_places 240 = .ok (.iload 9, 2) := by decide +kernel
theorem dL_places_242 : decode cL_places 242 = .ok (.ifCond .ge 7, 3) := by decide +kernel
theorem dL_places_245 : decode cL_places 245 = .ok (.iconst 0, 1) := by decide +kernel
theorem dL_places_246 : decode cL_places 246 = .ok (.goto 11, 3) := by decide +kernel
theorem dL_places_249 : decode cL_places 249 = .ok (.aload_n 0, 1) := by decide +kernel
theorem dL_places_250 : decode cL_places 250 = .ok (.iload 9, 2) := by decide +kernel
theorem dL_places_252 : decode cL_places 252 = .ok (.iload 10, 2) := by decide +kernel
theorem dL_places_254 : decode cL_places 254 = .ok (.invokestatic 25, 3) := by decide +kernel
theorem dL_places_257 : decode cL_places 257 = .ok (.iadd, 1) := by decide +kernel
theorem dL_places_258 : decode cL_places 258 = .ok (.istore_n 3, 1) := by decide +kernel
theorem dL_places_259 : decode cL_places 259 = .ok (.iload 4, 2) := by decide +kernel
theorem dL_places_261 : decode cL_places 261 = .ok (.iload 9, 2) := by decide +kernel
theorem dL_places_263 : decode cL_places 263 = .ok (.ifCond .ge 7, 3) := by decide +kernel
theorem dL_places_266 : decode cL_places 266 = .ok (.iconst 1, 1) := by decide +kernel
theorem dL_places_267 : decode cL_places 267 = .ok (.goto 4, 3) := by decide +kernel
theorem dL_places_270 : decode cL_places 270 = .ok (.iconst 0, 1) := by decide +kernel
theorem dL_places_271 : decode cL_places 271 = .ok (.iadd, 1) := by decide +kernel
theorem dL_places_272 : decode cL_places 272 = .ok (.istore 4, 2) := by decide +kernel
theorem dL_places_274 : decode cL_places 274 = .ok (.iinc 10 1, 3) := by decide +kernel
theorem dL_places_277 : decode cL_places 277 = .ok (.goto (-184), 3) := by decide +kernel
theorem dL_places_280 : decode cL_places 280 = .ok (.iload_n 2, 1) := by decide +kernel
theorem dL_places_281 : decode cL_places 281 = .ok (.iload 8, 2) := by decide +kernel
theorem dL_places_283 : decode cL_places 283 = .ok (.iadd, 1) := by decide +kernel
theorem dL_places_284 : decode cL_places 284 = .ok (.istore_n 2, 1) := by decide +kernel
theorem dL_places_285 : decode cL_places 285 = .ok (.iload 9, 2) := by decide +kernel
theorem dL_places_287 : decode cL_places 287 = .ok (.istore 5, 2) := by decide +kernel
theorem dL_places_289 : decode cL_places 289 = .ok (.iinc 7 1, 3) := by decide +kernel
theorem dL_places_292 : decode cL_places 292 = .ok (.goto (-261), 3) := by decide +kernel
theorem dL_places_295 : decode cL_places 295 = .ok (.iload 6, 2) := by decide +kernel
theorem dL_places_297 : decode cL_places 297 = .ok (.ifCond .eq 60, 3) := by decide +kernel
theorem dL_places_300 : decode cL_places 300 = .ok (.iload_n 2, 1) := by decide +kernel
theorem dL_places_301 : decode cL_places 301 = .ok (.bipush 64, 2) := by decide +kernel
theorem dL_places_303 : decode cL_places 303 = .ok (.if_icmp .ne 54, 3) := by decide +kernel
theorem dL_places_306 : decode cL_places 306 = .ok (.aload_n 0, 1) := by decide +kernel
theorem dL_places_307 : decode cL_places 307 = .ok (.iload_n 1, 1) := by decide +kernel
theorem dL_places_308 : decode cL_places 308 = .ok (.iconst 0, 1) := by decide +kernel
theorem dL_places_309 : decode cL_places 309 = .ok (.invokevirtual 48, 3) := by decide +kernel
theorem dL_places_312 : decode cL_places 312 = .ok (.iconst (-1), 1) := by decide +kernel
theorem dL_places_313 : decode cL_places 313 = .ok (.if_icmp .ne 44, 3) := by decide +kernel
theorem dL_places_316 : decode cL_places 316 = .ok (.iload_n 3, 1) := by decide +kernel
theorem dL_places_317 : decode cL_places 317 = .ok (.aload_n 0, 1) := by decide +kernel
theorem dL_places_318 : decode cL_places 318 = .ok (.iconst 0, 1) := by decide +kernel
theorem dL_places_319 : decode cL_places 319 = .ok (.bipush 63, 2) := by decide +kernel
theorem dL_places_321 : decode cL_places 321 = .ok (.invokevirtual 62, 3) := by decide +kernel
theorem dL_places_324 : decode cL_places 324 = .ok (.if_icmp .ne 33, 3) := by decide +kernel
theorem dL_places_327 : decode cL_places 327 = .ok (.iload 4, 2) := by decide +kernel
theorem dL_places_329 : decode cL_places 329 = .ok (.aload_n 0, 1) := by decide +kernel
theorem dL_places_330 : decode cL_places 330 = .ok (.iconst 4, 1) := by decide +kernel
theorem dL_places_331 : decode cL_places 331 = .ok (.invokevirtual 15, 3) := by decide +kernel
theorem dL_places_334 : decode cL_places 334 = .ok (.if_icmp .ne 23, 3) := by decide +kernel
theorem dL_places_337 : decode cL_places 337 = .ok (.iload 4, 2) := by decide +kernel
theorem dL_places_339 : decode cL_places 339 = .ok (.bipush 64, 2) := by decide +kernel
theorem dL_places_341 : decode cL_places 341 = .ok (.if_icmp .lt 12, 3) := by decide +kernel
theorem dL_places_344 : decode cL_places 344 = .ok (.aload_n 0, 1) := by decide +kernel
theorem dL_places_345 : decode cL_places 345 = .ok (.invokevirtual 65, 3) := by decide +kernel
theorem dL_places_348 : decode cL_places 348 = .ok (.dconst 0, 1) := by decide +kernel
theorem dL_places_349 : decode cL_places 349 = .ok (.dcmp .l, 1) := by decide +kernel
theorem dL_places_350 : decode cL_places 350 = .ok (.ifCond .ne 7, 3) := by decide +kernel
theorem dL_places_353 : decode cL_places 353 = .ok (.iconst 1, 1) := by decide +kernel
theorem dL_places_354 : decode cL_places 354 = .ok (.goto 4, 3) := by decide +kernel
theorem dL_places_357 : decode cL_places 357 = .ok (.iconst 0, 1) := by decide +kernel
theorem dL_places_358 : decode cL_places 358 = .ok (.ireturn, 1) := by decide +kernel
theorem dL_lines_0 : decode cL_lines 0 = .ok (.iconst 0, 1) := by decide +kernel
theorem dL_lines_1 : decode cL_lines 1 = .ok (.istore_n 1, 1) := by decide +kernel
theorem dL_lines_2 : decode cL_lines 2 = .ok (.iconst 0, 1) := by decide +kernel
theorem dL_lines_3 : decode cL_lines 3 = .ok (.istore_n 2, 1) := by decide +kernel
theorem dL_lines_4 : decode cL_lines 4 = .ok (.iconst 0, 1) := by decide +kernel
theorem dL_lines_5 : decode cL_lines 5 = .ok (.istore_n 3, 1) := by decide +kernel
theorem dL_lines_6 : decode cL_lines 6 = .ok (.iconst 0, 1) := by decide +kernel
theorem dL_lines_7 : decode cL_lines 7 = .ok (.istore 4, 2) := by decide +kernel
theorem dL_lines_9 : decode cL_lines 9 = .ok (.iconst 0, 1) := by decide +kernel
theorem dL_lines_10 : decode cL_lines 10 = .ok (.istore 5, 2) := by decide +kernel
theorem dL_lines_12 : decode cL_lines 12 = .ok (.iconst 1, 1) := by decide +kernel
theorem dL_lines_13 : decode cL_lines 13 = .ok (.istore 6, 2) := by decide +kernel
theorem dL_lines_15 : decode cL_lines 15 = .ok (.iconst 0, 1) := by decide +kernel
theorem dL_lines_16 : decode cL_lines 16 = .ok (.istore 7, 2) := by decide +kernel
theorem dL_lines_18 : decode cL_lines 18 = .ok (.iload 7, 2) := by decide +kernel
theorem dL_lines_20 : decode cL_lines 20 = .ok (.aload_n 0, 1) := by decide +kernel
theorem dL_lines_21 : decode cL_lines 21 = .ok (.iconst 1, 1) := by decide +kernel
theorem dL_lines_22 : decode cL_lines 22 = .ok (.invokevirtual 15, 3) := by decide +kernel
theorem dL_lines_25 : decode cL_lines 25 = .ok (.if_icmp .ge 168, 3) := by decide +kernel
theorem dL_lines_28 : decode cL_lines 28 = .ok (.iload 6, 2) := by decide +kernel
theorem dL_lines_30 : decode cL_lines 30 = .ok (.ifCond .eq 163, 3) := by decide +kernel
theorem dL_lines_33 : decode cL_lines 33 = .ok (.iload_n 1, 1) := by decide +kernel
theorem dL_lines_34 : decode cL_lines 34 = .ok (.aload_n 0, 1) := by decide +kernel
theorem dL_lines_35 : decode cL_lines 35 = .ok (.iload 7, 2) := by decide +kernel
theorem dL_lines_37 : decode cL_lines 37 = .ok (.bipush 6, 2) := by decide +kernel
theorem dL_lines_39 : decode cL_lines 39 = .ok (.invokevirtual 9, 3) := by decide +kernel
theorem dL_lines_42 : decode cL_lines 42 = .ok (.iadd, 1) := by decide +kernel
theorem dL_lines_43 : decode cL_lines 43 = .ok (.istore_n 1, 1) := by decide +kernel
theorem dL_lines_44 : decode cL_lines 44 = .ok (.iload_n 2, 1) := by decide +kernel
theorem dL_lines_45 : decode cL_lines 45 = .ok (.aload_n 0, 1) := by decide +kernel
theorem dL_lines_46 : decode cL_lines 46 = .ok (.iload 7, 2) := by decide +kernel
theorem dL_lines_48 : decode cL_lines 48 = .ok (.bipush 7, 2) := by decide +kernel
theorem dL_lines_50 : decode cL_lines 50 = .ok (.invokevirtual 9, 3) := by decide +kernel
theorem dL_lines_53 : decode cL_lines 53 = .ok (.iadd, 1) := by decide +kernel
theorem dL_lines_54 : decode cL_lines 54 = .ok (.istore_n 2, 1) := by decide +kernel
theorem dL_lines_55 : decode cL_lines 55 = .ok (.aload_n 0, 1) := by decide +kernel
theorem dL_lines_56 : decode cL_lines 56 = .ok (.iload 7, 2) := by decide +kernel
theorem dL_lines_58 : decode cL_lines 58 = .ok (.iconst 4, 1) := by decide +kernel
theorem dL_lines_59 : decode cL_lines 59 = .ok (.invokevirtual 9, 3) := by decide +kernel
theorem dL_lines_62 : decode cL_lines 62 = .ok (.aload_n 0, 1) := by decide +kernel
theorem dL_lines_63 : decode cL_lines 63 = .ok (.iconst 0, 1) := by decide +kernel
theorem dL_lines_64 : decode cL_lines 64 = .ok (.invokevirtual 15, 3) := by decide +kernel
theorem dL_lines_67 : decode cL_lines 67 = .ok (.if_icmp .gt 22, 3) := by decide +kernel
theorem dL_lines_70 : decode cL_lines 70 = .ok (.aload_n 0, 1) := by decide +kernel
theorem dL_lines_71 : decode cL_lines 71 = .ok (.iconst 0, 1) := by decide +kernel
theorem dL_lines_72 : decode cL_lines 72 = .ok (.invokevirtual 15, 3) := by decide +kernel
theorem dL_lines_75 : decode cL_lines 75 = .ok (.aload_n 0, 1) := by decide +kernel
theorem dL_lines_76 : decode cL_lines 76 = .ok (.iload 7, 2) := by decide +kernel
theorem dL_lines_78 : decode cL_lines 78 = .ok (.iconst 5, 1) := by decide +kernel
theorem dL_lines_79 : decode cL_lines 79 = .ok (.invokevirtual 9, 3) := by decide +kernel
theorem dL_lines_82 : decode cL_lines 82 = .ok (.if_icmp .gt 7, 3) := by decide +kernel
theorem dL_lines_85 : decode cL_lines 85 = .ok (.iconst 1, 1) := by decide +kernel
theorem dL_lines_86 : decode cL_lines 86 = .ok (.goto 4, 3) := by decide +kernel
theorem dL_lines_89 : decode cL_lines 89 = .ok (.iconst 0, 1) := by decide +kernel
theorem dL_lines_90 : decode cL_lines 90 = .ok (.istore 8, 2) := by decide +kernel
theorem dL_lines_92 : decode cL_lines 92 = .ok (.iload_n 3, 1) := by decide +kernel
theorem dL_lines_93 : decode cL_lines 93 = .ok (.iload 8, 2) := by decide +kernel
theorem dL_lines_95 : decode cL_lines 95 = .ok (.ifCond .eq 7, 3) := by decide +kernel
theorem dL_lines_98 : decode cL_lines 98 = .ok (.iconst 1, 1) := by decide +kernel
theorem dL_lines_99 : decode cL_lines 99 = .ok (.goto 4, 3) := by decide +kernel
theorem dL_lines_102 : decode cL_lines 102 = .ok (.iconst 0, 1) := by decide +kernel
theorem dL_lines_103 : decode cL_lines 103 = .ok (.iadd, 1) := by decide +kernel
theorem dL_lines_104 : decode cL_lines 104 = .ok (.istore_n 3, 1) := by decide +kernel
theorem dL_lines_105 : decode cL_lines 105 = .ok (.aload_n 0, 1) := by decide +kernel
theorem dL_lines_106 : decode cL_lines 106 = .ok (.iload 7, 2) := by decide +kernel
theorem dL_lines_108 : decode cL_lines 108 = .ok (.invokevirtual 69, 3) := by decide +kernel
theorem dL_lines_111 : decode cL_lines 111 = .ok (.iconst (-1), 1) := by decide +kernel
theorem dL_lines_112 : decode cL_lines 112 = .ok (.if_icmp .lt 72, 3) := by decide +kernel
theorem dL_lines_115 : decode cL_lines 115 = .ok (.iload 8, 2) := by decide +kernel
theorem dL_lines_117 : decode cL_lines 117 = .ok (.ifCond .ne 25, 3) := by decide +kernel
theorem dL_lines_120 : decode cL_lines 120 = .ok (.aload_n 0, 1) := by decide +kernel
theorem dL_lines_121 : decode cL_lines 121 = .ok (.iload 7, 2) := by decide +kernel
theorem dL_lines_123 : decode cL_lines 123 = .ok (.bipush 6, 2) := by decide +kernel
theorem dL_lines_125 : decode cL_lines 125 = .ok (.invokevirtual 9, 3) := by decide +kernel
theorem dL_lines_128 : decode cL_lines 128 = .ok (.ifCond .ne 56, 3) := by decide +kernel
theorem dL_lines_131 : decode cL_lines 131 = .ok (.aload_n 0, 1) := by decide +kernel
theorem dL_lines_132 : decode cL_lines 132 = .ok (.iload 7, 2) := by decide +kernel
theorem dL_lines_134 : decode cL_lines 134 = .ok (.bipush 7, 2) := by decide +kernel
theorem dL_lines_136 : decode cL_lines 136 = .ok (.invokevirtual 9, 3) := by decide +kernel
theorem dL_lines_139 : decode cL_lines 139 = .ok (.ifCond .ne 45, 3) := by decide +kernel
theorem dL_lines_142 : decode cL_lines 142 = .ok (.aload_n 0, 1) := by decide +kernel
theorem dL_lines_143 : decode cL_lines 143 = .ok (.iload 7, 2) := by decide +kernel
theorem dL_lines_145 : decode cL_lines 145 = .ok (.bipush 6, 2) := by decide +kernel
theorem dL_lines_147 : decode cL_lines 147 = .ok (.invokevirtual 9, 3) := by decide +kernel
theorem dL_lines_150 : decode cL_lines 150 = .ok (.ifCond .eq 30, 3) := by decide +kernel
theorem dL_lines_153 : decode cL_lines 153 = .ok (.aload_n 0, 1) := by decide +kernel
theorem dL_lines_154 : decode cL_lines 154 = .ok (.iload 7, 2) := by decide +kernel
theorem dL_lines_156 : decode cL_lines 156 = .ok (.bipush 8, 2) := by decide +kernel
theorem dL_lines_158 : decode cL_lines 158 = .ok (.invokevirtual 9, 3) := by decide +kernel
theorem dL_lines_161 : decode cL_lines 161 = .ok (.ifCond .lt 23, 3) := by decide +kernel
theorem dL_lines_164 : decode cL_lines 164 = .ok (.aload_n 0, 1) := by decide +kernel
theorem dL_lines_165 : decode cL_lines 165 = .ok (.iload 7, 2) := by decide +kernel
theorem dL_lines_167 : decode cL_lines 167 = .ok (.bipush 8, 2) := by decide +kernel
theorem dL_lines_169 : decode cL_lines 169 = .ok (.invokevirtual 9, 3) := by decide +kernel
theorem dL_lines_172 : decode cL_lines 172 = .ok (.aload_n 0, 1) := by decide +kernel
theorem dL_lines_173 : decode cL_lines 173 = .ok (.iconst 0, 1) := by decide +kernel
theorem dL_lines_174 : decode cL_lines 174 = .ok (.invokevirtual 15, 3) := by decide +kernel
theorem dL_lines_177 : decode cL_lines 177 = .ok (.if_icmp .gt 7, 3) := by decide +kernel
theorem dL_lines_180 : decode cL_lines 180 = .ok (.iconst 1, 1) := by decide +kernel
theorem dL_lines_181 : decode cL_lines 181 = .ok (.goto 4, 3) := by decide +kernel
theorem dL_lines_184 : decode cL_lines 184 = .ok (.iconst 0, 1) := by decide +kernel
theorem dL_lines_185 : decode cL_lines 185 = .ok (.istore 6, 2) := by decide +kernel
theorem dL_lines_187 : decode cL_lines 187 = .ok (.iinc 7 1, 3) := by decide +kernel
theorem dL_lines_190 : decode cL_lines 190 = .ok (.goto (-172), 3) := by decide +kernel
theorem dL_lines_193 : decode cL_lines 193 = .ok (.iconst 1, 1) := by decide +kernel
theorem dL_lines_194 : decode cL_lines 194 = .ok (.istore 7, 2) := by decide +kernel
theorem dL_lines_196 : decode cL_lines 196 = .ok (.iload 7, 2) := by decide +kernel
theorem dL_lines_198 : decode cL_lines 198 = .ok (.sipush 128, 3) := by decide +kernel
theorem dL_lines_201 : decode cL_lines 201 = .ok (.if_icmp .ge 41, 3) := by decide +kernel
theorem dL_lines_204 : decode cL_lines 204 = .ok (.iload 4, 2) := by decide +kernel
theorem dL_lines_206 : decode cL_lines 206 = .ok (.aload_n 0, 1) := by decide +kernel
theorem dL_lines_207 : decode cL_lines 207 = .ok (.iload 7, 2) := by decide +kernel
theorem dL_lines_209 : decode cL_lines 209 = .ok (.iconst 0, 1) := by decide +kernel
theorem dL_lines_210 : decode cL_lines 210 = .ok (.invokevirtual 72, 3) := by decide +kernel
theorem dL_lines_213 : decode cL_lines 213 = .ok (.ifCond .lt 7, 3) := by decide +kernel
theorem dL_lines_216 : decode cL_lines 216 = .ok (.iconst 1, 1) := by decide +kernel
theorem dL_lines_217 : decode cL_lines 217 = .ok (.goto 4, 3) := by decide +kernel
theorem dL_lines_220 : decode cL_lines 220 = .ok (.iconst 0, 1) := by decide +kernel
theorem dL_lines_221 : decode cL_lines 221 = .ok (.iadd, 1) := by decide +kernel
theorem dL_lines_222 : decode cL_lines 222 = .ok (.istore 4, 2) := by decide +kernel
theorem dL_lines_224 : decode cL_lines 224 = .ok (.iload 5, 2) := by decide +kernel
theorem dL_lines_226 : decode cL_lines 226 = .ok (.aload_n 0, 1) := by decide +kernel
theorem dL_lines_227 : decode cL_lines 227 = .ok (.iload 7, 2) := by decide +kernel
theorem dL_lines_229 : decode cL_lines 229 = .ok (.iconst 4, 1) := by decide +kernel
theorem dL_lines_230 : decode cL_lines 230 = .ok (.invokevirtual 72, 3) := by decide +kernel
theorem dL_lines_233 : decode cL_lines 233 = .ok (.iadd, 1) := by decide +kernel
theorem dL_lines_234 : decode cL_lines 234 = .ok (.istore 5, 2) := by decide +kernel
theorem dL_lines_236 : decode cL_lines 236 = .ok (.iinc 7 1, 3) := by decide +kernel
theorem dL_lines_239 : decode cL_lines 239 = .ok (.goto (-43), 3) := by decide +kernel
theorem dL_lines_242 : decode cL_lines 242 = .ok (.iload 6, 2) := by decide +kernel
theorem dL_lines_244 : decode cL_lines 244 = .ok (.ifCond .eq 52, 3) := by decide +kernel
theorem dL_lines_247 : decode cL_lines 247 = .ok (.iload_n 1, 1) := by decide +kernel
theorem dL_lines_248 : decode cL_lines 248 = .ok (.aload_n 0, 1) := by decide +kernel
theorem dL_lines_249 : decode cL_lines 249 = .ok (.iconst 4, 1) := by decide +kernel
theorem dL_lines_250 : decode cL_lines 250 = .ok (.invokevirtual 15, 3) := by decide +kernel
theorem dL_lines_253 : decode cL_lines 253 = .ok (.iadd, 1) := by decide +kernel
theorem dL_lines_254 : decode cL_lines 254 = .ok (.bipush 64, 2) := by decide +kernel
theorem dL_lines_256 : decode cL_lines 256 = .ok (.if_icmp .ne 40, 3) := by decide +kernel
theorem dL_lines_259 : decode cL_lines 259 = .ok (.iload_n 2, 1) := by decide +kernel
theorem dL_lines_260 : decode cL_lines 260 = .ok (.aload_n 0, 1) := by decide +kernel
theorem dL_lines_261 : decode cL_lines 261 = .ok (.bipush 6, 2) := by decide +kernel
theorem dL_lines_263 : decode cL_lines 263 = .ok (.invokevirtual 15, 3) := by decide +kernel
theorem dL_lines_266 : decode cL_lines 266 = .ok (.if_icmp .ne 30, 3) := by decide +kernel
theorem dL_lines_269 : decode cL_lines 269 = .ok (.iload 4, 2) := by decide +kernel
theorem dL_lines_271 : decode cL_lines 271 = .ok (.iload_n 2, 1) := by decide +kernel
theorem dL_lines_272 : decode cL_lines 272 = .ok (.if_icmp .ne 24, 3) := by decide +kernel
theorem dL_lines_275 : decode cL_lines 275 = .ok (.iload 5, 2) := by decide +kernel
theorem dL_lines_277 : decode cL_lines 277 = .ok (.aload_n 0, 1) := by decide +kernel
theorem dL_lines_278 : decode cL_lines 278 = .ok (.iconst 5, 1) := by decide +kernel
theorem dL_lines_279 : decode cL_lines 279 = .ok (.invokevirtual 15, 3) := by decide +kernel
theorem dL_lines_282 : decode cL_lines 282 = .ok (.if_icmp .ne 14, 3) := by decide +kernel
theorem dL_lines_285 : decode cL_lines 285 = .ok (.iload 4, 2) := by decide +kernel
theorem dL_lines_287 : decode cL_lines 287 = .ok (.iload 5, 2) := by decide +kernel
theorem dL_lines_289 : decode cL_lines 289 = .ok (.if_icmp .gt 7, 3) := by decide +kernel
theorem dL_lines_292 : decode cL_lines 292 = .ok (.iconst 1, 1) := by decide +kernel
theorem dL_lines_293 : decode cL_lines 293 = .ok (.goto 4, 3) := by decide +kernel
theorem dL_lines_296 : decode cL_lines 296 = .ok (.iconst 0, 1) := by decide +kernel
theorem dL_lines_297 : decode cL_lines 297 = .ok (.istore 6, 2) := by decide +kernel
theorem dL_lines_299 : decode cL_lines 299 = .ok (.iload 6, 2) := by decide +kernel
theorem dL_lines_301 : decode cL_lines 301 = .ok (.ifCond .eq 16, 3) := by decide +kernel
theorem dL_lines_304 : decode cL_lines 304 = .ok (.iload_n 3, 1) := by decide +kernel
theorem dL_lines_305 : decode cL_lines 305 = .ok (.aload_n 0, 1) := by decide +kernel
theorem dL_lines_306 : decode cL_lines 306 = .ok (.iconst 2, 1) := by decide +kernel
theorem dL_lines_307 : decode cL_lines 307 = .ok (.invokevirtual 15, 3) := by decide +kernel
theorem dL_lines_310 : decode cL_lines 310 = .ok (.if_icmp .ne 7, 3) := by decide +kernel
theorem dL_lines_313 : decode cL_lines 313 = .ok (.iconst 1, 1) := by decide +kernel
theorem dL_lines_314 : decode cL_lines 314 = .ok (.goto 4, 3) := by decide +kernel
theorem dL_lines_317 : decode cL_lines 317 = .ok (.iconst 0, 1) := by decide +kernel
theorem dL_lines_318 : decode cL_lines 318 = .ok (.ireturn, 1) := by decide +kernel
theorem dL_act_0 : decode cL_act 0 = .ok (.aload_n 0, 1) := by decide +kernel
theorem dL_act_1 : decode cL_act 1 = .ok (.iconst 1, 1) := by decide +kernel
theorem dL_act_2 : decode cL_act 2 = .ok (.invokevirtual 15, 3) := by decide +kernel
theorem dL_act_5 : decode cL_act 5 = .ok (.istore_n 3, 1) := by decide +kernel
theorem dL_act_6 : decode cL_act 6 = .ok (.iload_n 3, 1) := by decide +kernel
theorem dL_act_7 : decode cL_act 7 = .ok (.ifCond .ne 7, 3) := by decide +kernel
theorem dL_act_10 : decode cL_act 10 = .ok (.iconst 0, 1) := by decide +kernel
theorem dL_act_11 : decode cL_act 11 = .ok (.goto 14, 3) := by decide +kernel
theorem dL_act_14 : decode cL_act 14 = .ok (.aload_n 1, 1) := by decide +kernel
theorem dL_act_15 : decode cL_act 15 = .ok (.iload_n 2, 1) := by decide +kernel
theorem dL_act_16 : decode cL_act 16 = .ok (.iconst 1, 1) := by decide +kernel
theorem dL_act_17 : decode cL_act 17 = .ok (.iadd, 1) := by decide +kernel
theorem dL_act_18 : decode cL_act 18 = .ok (.invokestatic 75, 3) := by decide +kernel
theorem dL_act_21 : decode cL_act 21 = .ok (.iload_n 3, 1) := by decide +kernel
theorem dL_act_22 : decode cL_act 22 = .ok (.invokestatic 79, 3) := by decide +kernel
theorem dL_act_25 : decode cL_act 25 = .ok (.istore 4, 2) := by decide +kernel
theorem dL_act_27 : decode cL_act 27 = .ok (.aload_n 1, 1) := by decide +kernel
theorem dL_act_28 : decode cL_act 28 = .ok (.iload_n 2, 1) := by decide +kernel
theorem dL_act_29 : decode cL_act 29 = .ok (.iconst 2, 1) := by decide +kernel
theorem dL_act_30 : decode cL_act 30 = .ok (.iadd, 1) := by decide +kernel
theorem dL_act_31 : decode cL_act 31 = .ok (.invokestatic 75, 3) := by decide +kernel
theorem dL_act_34 : decode cL_act 34 = .ok (.bipush 64, 2) := by decide +kernel
theorem dL_act_36 : decode cL_act 36 = .ok (.invokestatic 79, 3) := by decide +kernel
theorem dL_act_39 : decode cL_act 39 = .ok (.istore 5, 2) := by decide +kernel
theorem dL_act_41 : decode cL_act 41 = .ok (.aload_n 1, 1) := by decide +kernel
theorem dL_act_42 : decode cL_act 42 = .ok (.iload_n 2, 1) := by decide +kernel
theorem dL_act_43 : decode cL_act 43 = .ok (.iconst 3, 1) := by decide +kernel
theorem dL_act_44 : decode cL_act 44 = .ok (.iadd, 1) := by decide +kernel
theorem dL_act_45 : decode cL_act 45 = .ok (.invokestatic 75, 3) := by decide +kernel
theorem dL_act_48 : decode cL_act 48 = .ok (.bipush 41, 2) := by decide +kernel
theorem dL_act_50 : decode cL_act 50 = .ok (.invokestatic 79, 3) := by decide +kernel
theorem dL_act_53 : decode cL_act 53 = .ok (.bipush 20, 2) := by decide +kernel
theorem dL_act_55 : decode cL_act 55 = .ok (.isub, 1) := by decide +kernel
theorem dL_act_56 : decode cL_act 56 = .ok (.istore 6, 2) := by decide +kernel
theorem dL_act_58 : decode cL_act 58 = .ok (.iload_n 3, 1) := by decide +kernel
theorem dL_act_59 : decode cL_act 59 = .ok (.ifCond .ne 7, 3) := by decide +kernel
theorem dL_act_62 : decode cL_act 62 = .ok (.iconst 0, 1) := by decide +kernel
theorem dL_act_63 : decode cL_act 63 = .ok (.goto 13, 3) := by decide +kernel
theorem dL_act_66 : decode cL_act 66 = .ok (.aload_n 1, 1) := by decide +kernel
theorem dL_act_67 : decode cL_act 67 = .ok (.iload_n 2, 1) := by decide +kernel
theorem dL_act_68 : decode cL_act 68 = .ok (.invokestatic 75, 3) := by decide +kernel
theorem dL_act_71 : decode cL_act 71 = .ok (.bipush 11, 2) := by decide +kernel
theorem dL_act_73 : decode cL_act 73 = .ok (.invokestatic 79, 3) := by decide +kernel
theorem dL_act_76 : decode cL_act 76 = .ok (.tableswitch 197 0 9 #[56, 56, 56, 91, 118, 145, 154, 165, 185, 192], 56) := by decide +kernel
theorem dL_act_132 : decode cL_act 132 = .ok (.iload_n 3, 1) := by decide +kernel
theorem dL_act_133 : decode cL_act 133 = .ok (.bipush 6, 2) := by decide +kernel
theorem dL_act_135 : decode cL_act 135 = .ok (.if_icmp .ge 29, 3) := by decide +kernel
theorem dL_act_138 : decode cL_act 138 = .ok (.aload_n 0, 1) := by decide +kernel
theorem dL_act_139 : decode cL_act 139 = .ok (.iload 6, 2) := by decide +kernel
theorem dL_act_141 : decode cL_act 141 = .ok (.aload_n 1, 1) := by decide +kernel
theorem dL_act_142 : decode cL_act 142 = .ok (.iload_n 2, 1) := by decide +kernel
theorem dL_act_143 : decode cL_act 143 = .ok (.iconst 1, 1) := by decide +kernel
theorem dL_act_144 : decode cL_act 144 = .ok (.iadd, 1) := by decide +kernel
theorem dL_act_145 : decode cL_act 145 = .ok (.invokestatic 75, 3) := by decide +kernel
theorem dL_act_148 : decode cL_act 148 = .ok (.sipush 600, 3) := by decide +kernel
theorem dL_act_151 : decode cL_act 151 = .ok (.invokestatic 79, 3) := by decide +kernel
theorem dL_act_154 : decode cL_act 154 = .ok (.sipush 300, 3) := by decide +kernel
theorem dL_act_157 : decode cL_act 157 = .ok (.isub, 1) := by decide +kernel
theorem dL_act_158 : decode cL_act 158 = .ok (.invokestatic 82, 3) := by decide +kernel
theorem dL_act_161 : decode cL_act 161 = .ok (.goto 5, 3) := by decide +kernel
theorem dL_act_164 : decode cL_act 164 = .ok (.bipush (-3), 2) := by decide +kernel
theorem dL_act_166 : decode cL_act 166 = .ok (.ireturn, 1) := by decide +kernel
theorem dL_act_167 : decode cL_act 167 = .ok (.aload_n 0, 1) := by decide +kernel
theorem dL_act_168 : decode cL_act 168 = .ok (.iload 4, 2) := by decide +kernel
theorem dL_act_170 : decode cL_act 170 = .ok (.iload 5, 2) := by decide +kernel
theorem dL_act_172 : decode cL_act 172 = .ok (.iload 5, 2) := by decide +kernel
theorem dL_act_174 : decode cL_act 174 = .ok (.aload_n 1, 1) := by decide +kernel
theorem dL_act_175 : decode cL_act 175 = .ok (.iload_n 2, 1) := by decide +kernel
theorem dL_act_176 : decode cL_act 176 = .ok (.iconst 3, 1) := by decide +kernel
theorem dL_act_177 : decode cL_act 177 = .ok (.iadd, 1) := by decide +kernel
theorem dL_act_178 : decode cL_act 178 = .ok (.invokestatic 75, 3) := by decide +kernel
theorem dL_act_181 : decode cL_act 181 = .ok (.bipush 64, 2) := by decide +kernel
theorem dL_act_183 : decode cL_act 183 = .ok (.iload 5, 2) := by decide +kernel
theorem dL_act_185 : decode cL_act 185 = .ok (.isub, 1) := by decide +kernel
theorem dL_act_186 : decode cL_act 186 = .ok (.invokestatic 79, 3) := by decide +kernel
theorem dL_act_189 : decode cL_act 189 = .ok (.iadd, 1) := by decide +kernel
theorem dL_act_190 : decode cL_act 190 = .ok (.invokevirtual 84, 3) := by decide +kernel
theorem dL_act_193 : decode cL_act 193 = .ok (.ireturn, 1) := by decide +kernel
theorem dL_act_194 : decode cL_act 194 = .ok (.aload_n 0, 1) := by decide +kernel
theorem dL_act_195 : decode cL_act 195 = .ok (.iload 4, 2) := by decide +kernel
theorem dL_act_197 : decode cL_act 197 = .ok (.iload 5, 2) := by decide +kernel
theorem dL_act_199 : decode cL_act 199 = .ok (.iload 5, 2) := by decide +kernel
theorem dL_act_201 : decode cL_act 201 = .ok (.aload_n 1, 1) := by decide +kernel
theorem dL_act_202 : decode cL_act 202 = .ok (.iload_n 2, 1) := by decide +kernel
theorem dL_act_203 : decode cL_act 203 = .ok (.iconst 3, 1) := by decide +kernel
theorem dL_act_204 : decode cL_act 204 = .ok (.iadd, 1) := by decide +kernel
theorem dL_act_205 : decode cL_act 205 = .ok (.invokestatic 75, 3) := by decide +kernel
theorem dL_act_208 : decode cL_act 208 = .ok (.bipush 100, 2) := by decide +kernel
theorem dL_act_210 : decode cL_act 210 = .ok (.iload 5, 2) := by decide +kernel
theorem dL_act_212 : decode cL_act 212 = .ok (.isub, 1) := by decide +kernel
theorem dL_act_213 : decode cL_act 213 = .ok (.invokestatic 79, 3) := by decide +kernel
theorem dL_act_216 : decode cL_act 216 = .ok (.iadd, 1) := by decide +kernel
theorem dL_act_217 : decode cL_act 217 = .ok (.invokevirtual 87, 3) := by decide +kernel
theorem dL_act_220 : decode cL_act 220 = .ok (.ireturn, 1) := by decide +kernel
theorem dL_act_221 : decode cL_act 221 = .ok (.aload_n 0, 1) := by decide +kernel
theorem dL_act_222 : decode cL_act 222 = .ok (.iload 4, 2) := by decide +kernel
theorem dL_act_224 : decode cL_act 224 = .ok (.iload 6, 2) := by decide +kernel
theorem dL_act_226 : decode cL_act 226 = .ok (.invokestatic 90, 3) := by decide +kernel
theorem dL_act_229 : decode cL_act 229 = .ok (.ireturn, 1) := by decide +kernel
theorem dL_act_230 : decode cL_act 230 = .ok (.aload_n 0, 1) := by decide +kernel
theorem dL_act_231 : decode cL_act 231 = .ok (.iload 4, 2) := by decide +kernel
theorem dL_act_233 : decode cL_act 233 = .ok (.iload 5, 2) := by decide +kernel
theorem dL_act_235 : decode cL_act 235 = .ok (.iload 6, 2) := by decide +kernel
theorem dL_act_237 : decode cL_act 237 = .ok (.invokestatic 92, 3) := by decide +kernel
theorem dL_act_240 : decode cL_act 240 = .ok (.ireturn, 1) := by decide +kernel
theorem dL_act_241 : decode cL_act 241 = .ok (.aload_n 0, 1) := by decide +kernel
theorem dL_act_242 : decode cL_act 242 = .ok (.iload 5, 2) := by decide +kernel
theorem dL_act_244 : decode cL_act 244 = .ok (.aload_n 1, 1) := by decide +kernel
theorem dL_act_245 : decode cL_act 245 = .ok (.iload_n 2, 1) := by decide +kernel
theorem dL_act_246 : decode cL_act 246 = .ok (.iconst 1, 1) := by decide +kernel
theorem dL_act_247 : decode cL_act 247 = .ok (.iadd, 1) := by decide +kernel
theorem dL_act_248 : decode cL_act 248 = .ok (.invokestatic 75, 3) := by decide +kernel
theorem dL_act_251 : decode cL_act 251 = .ok (.bipush 36, 2) := by decide +kernel
theorem dL_act_253 : decode cL_act 253 = .ok (.invokestatic 79, 3) := by decide +kernel
theorem dL_act_256 : decode cL_act 256 = .ok (.iadd, 1) := by decide +kernel
theorem dL_act_257 : decode cL_act 257 = .ok (.invokevirtual 95, 3) := by decide +kernel
theorem dL_act_260 : decode cL_act 260 = .ok (.ireturn, 1) := by decide +kernel
theorem dL_act_261 : decode cL_act 261 = .ok (.aload_n 0, 1) := by decide +kernel
theorem dL_act_262 : decode cL_act 262 = .ok (.iload 4, 2) := by decide +kernel
theorem dL_act_264 : decode cL_act 264 = .ok (.invokevirtual 98, 3) := by decide +kernel
theorem dL_act_267 : decode cL_act 267 = .ok (.ireturn, 1) := by decide +kernel
theorem dL_act_268 : decode cL_act 268 = .ok (.aload_n 0, 1) := by decide +kernel
theorem dL_act_269 : decode cL_act 269 = .ok (.invokestatic 101, 3) := by decide +kernel
theorem dL_act_272 : decode cL_act 272 = .ok (.ireturn, 1) := by decide +kernel
theorem dL_act_273 : decode cL_act 273 = .ok (.aload_n 0, 1) := by decide +kernel
theorem dL_act_274 : decode cL_act 274 = .ok (.bipush 7, 2) := by decide +kernel
theorem dL_act_276 : decode cL_act 276 = .ok (.invokevirtual 15, 3) := by decide +kernel
theorem dL_act_279 : decode cL_act 279 = .ok (.aload_n 0, 1) := by decide +kernel
theorem dL_act_280 : decode cL_act 280 = .ok (.invokevirtual 104, 3) := by decide +kernel
theorem dL_act_283 : decode cL_act 283 = .ok (.isub, 1) := by decide +kernel
theorem dL_act_284 : decode cL_act 284 = .ok (.ireturn, 1) := by decide +kernel
theorem dL_law_0 : decode cL_law 0 = .ok (.new 10, 3) := by decide +kernel
theorem dL_law_3 : decode cL_law 3 = .ok (.dup, 1) := by decide +kernel
theorem dL_law_4 : decode cL_law 4 = .ok (.invokespecial 107, 3) := by decide +kernel
theorem dL_law_7 : decode cL_law 7 = .ok (.astore_n 1, 1) := by decide +kernel
theorem dL_law_8 : decode cL_law 8 = .ok (.iconst 1, 1) := by decide +kernel
theorem dL_law_9 : decode cL_law 9 = .ok (.istore_n 2, 1) := by decide +kernel
theorem dL_law_10 : decode cL_law 10 = .ok (.aload_n 0, 1) := by decide +kernel
theorem dL_law_11 : decode cL_law 11 = .ok (.arraylength, 1) := by decide +kernel
theorem dL_law_12 : decode cL_law 12 = .ok (.iconst 4, 1) := by decide +kernel
theorem dL_law_13 : decode cL_law 13 = .ok (.idiv, 1) := by decide +kernel
theorem dL_law_14 : decode cL_law 14 = .ok (.bipush 14, 2) := by decide +kernel
theorem dL_law_16 : decode cL_law 16 = .ok (.if_icmp .le 8, 3) := by decide +kernel
theorem dL_law_19 : decode cL_law 19 = .ok (.bipush 14, 2) := by decide +kernel
theorem dL_law_21 : decode cL_law 21 = .ok (.goto 7, 3) := by decide +kernel
theorem dL_law_24 : decode cL_law 24 = .ok (.aload_n 0, 1) := by decide +kernel
theorem dL_law_25 : decode cL_law 25 = .ok (.arraylength, 1) := by decide +kernel
theorem dL_law_26 : decode cL_law 26 = .ok (.iconst 4, 1) := by decide +kernel
theorem dL_law_27 : decode cL_law 27 = .ok (.idiv, 1) := by decide +kernel
theorem dL_law_28 : decode cL_law 28 = .ok (.istore_n 3, 1) := by decide +kernel
theorem dL_law_29 : decode cL_law 29 = .ok (.iconst 0, 1) := by decide +kernel
theorem dL_law_30 : decode cL_law 30 = .ok (.istore 4, 2) := by decide +kernel
theorem dL_law_32 : decode cL_law 32 = .ok (.iload 4, 2) := by decide +kernel
theorem dL_law_34 : decode cL_law 34 = .ok (.iload_n 3, 1) := by decide +kernel
theorem dL_law_35 : decode cL_law 35 = .ok (.if_icmp .ge 89, 3) := by decide +kernel
theorem dL_law_38 : decode cL_law 38 = .ok (.iload_n 2, 1) := by decide +kernel
theorem dL_law_39 : decode cL_law 39 = .ok (.ifCond .eq 85, 3) := by decide +kernel
theorem dL_law_42 : decode cL_law 42 = .ok (.aload_n 1, 1) := by decide +kernel
theorem dL_law_43 : decode cL_law 43 = .ok (.bipush 8, 2) := by decide +kernel
theorem dL_law_45 : decode cL_law 45 = .ok (.invokevirtual 15, 3) := by decide +kernel
theorem dL_law_48 : decode cL_law 48 = .ok (.istore 5, 2) := by decide +kernel
theorem dL_law_50 : decode cL_law 50 = .ok (.aload_n 1, 1) := by decide +kernel
theorem dL_law_51 : decode cL_law 51 = .ok (.aload_n 0, 1) := by decide +kernel
theorem dL_law_52 : decode cL_law 52 = .ok (.iconst 4, 1) := by decide +kernel
theorem dL_law_53 : decode cL_law 53 = .ok (.iload 4, 2) := by decide +kernel
theorem dL_law_55 : decode cL_law 55 = .ok (.imul, 1) := by decide +kernel
theorem dL_law_56 : decode cL_law 56 = .ok (.invokestatic 108, 3) := by decide +kernel
theorem dL_law_59 : decode cL_law 59 = .ok (.istore 6, 2) := by decide +kernel
theorem dL_law_61 : decode cL_law 61 = .ok (.iload 6, 2) := by decide +kernel
theorem dL_law_63 : decode cL_law 63 = .ok (.sipush (-10003), 3) := by decide +kernel
theorem dL_law_66 : decode cL_law 66 = .ok (.if_icmp .ne 14, 3) := by decide +kernel
theorem dL_law_69 : decode cL_law 69 = .ok (.aload_n 1, 1) := by decide +kernel
theorem dL_law_70 : decode cL_law 70 = .ok (.bipush 8, 2) := by decide +kernel
theorem dL_law_72 : decode cL_law 72 = .ok (.invokevirtual 15, 3) := by decide +kernel
theorem dL_law_75 : decode cL_law 75 = .ok (.iload 5, 2) := by decide +kernel
theorem dL_law_77 : decode cL_law 77 = .ok (.if_icmp .ne 7, 3) := by decide +kernel
theorem dL_law_80 : decode cL_law 80 = .ok (.iconst 1, 1) := by decide +kernel
theorem dL_law_81 : decode cL_law 81 = .ok (.goto 4, 3) := by decide +kernel
theorem dL_law_84 : decode cL_law 84 = .ok (.iconst 0, 1) := by decide +kernel
theorem dL_law_85 : decode cL_law 85 = .ok (.istore_n 2, 1) := by decide +kernel
theorem dL_law_86 : decode cL_law 86 = .ok (.iload_n 2, 1) := by decide +kernel
theorem dL_law_87 : decode cL_law 87 = .ok (.ifCond .eq 29, 3) := by decide +kernel
theorem dL_law_90 : decode cL_law 90 = .ok (.aload_n 1, 1) := by decide +kernel
theorem dL_law_91 : decode cL_law 91 = .ok (.invokestatic 112, 3) := by decide +kernel
theorem dL_law_94 : decode cL_law 94 = .ok (.ifCond .eq 22, 3) := by decide +kernel
theorem dL_law_97 : decode cL_law 97 = .ok (.iload 4, 2) := by decide +kernel
theorem dL_law_99 : decode cL_law 99 = .ok (.iconst 3, 1) := by decide +kernel
theorem dL_law_100 : decode cL_law 100 = .ok (.irem, 1) := by decide +kernel
theorem dL_law_101 : decode cL_law 101 = .ok (.iconst 2, 1) := by decide +kernel
theorem dL_law_102 : decode cL_law 102 = .ok (.if_icmp .ne 10, 3) := by decide +kernel
theorem dL_law_105 : decode cL_law 105 = .ok (.aload_n 1, 1) := by decide +kernel
theorem dL_law_106 : decode cL_law 106 = .ok (.invokestatic 116, 3) := by decide +kernel
theorem dL_law_109 : decode cL_law 109 = .ok (.ifCond .eq 7, 3) := by decide +kernel
theorem dL_law_112 : decode cL_law 112 = .ok (.iconst 1, 1) := by decide +kernel
theorem dL_law_113 : decode cL_law 113 = .ok (.goto 4, 3) := by decide +kernel
theorem dL_law_116 : decode cL_law 116 = .ok (.iconst 0, 1) := by decide +kernel
theorem dL_law_117 : decode cL_law 117 = .ok (.istore_n 2, 1) := by decide +kernel
theorem dL_law_118 : decode cL_law 118 = .ok (.iinc 4 1, 3) := by decide +kernel
theorem dL_law_121 : decode cL_law 121 = .ok (.goto (-89), 3) := by decide +kernel
theorem dL_law_124 : decode cL_law 124 = .ok (.iload_n 2, 1) := by decide +kernel
theorem dL_law_125 : decode cL_law 125 = .ok (.ifCond .eq 14, 3) := by decide +kernel
theorem dL_law_128 : decode cL_law 128 = .ok (.aload_n 1, 1) := by decide +kernel
theorem dL_law_129 : decode cL_law 129 = .ok (.invokestatic 116, 3) := by decide +kernel
theorem dL_law_132 : decode cL_law 132 = .ok (.ifCond .eq 7, 3) := by decide +kernel
theorem dL_law_135 : decode cL_law 135 = .ok (.iconst 1, 1) := by decide +kernel
theorem dL_law_136 : decode cL_law 136 = .ok (.goto 4, 3) := by decide +kernel
theorem dL_law_139 : decode cL_law 139 = .ok (.iconst 0, 1) := by decide +kernel
theorem dL_law_140 : decode cL_law 140 = .ok (.ireturn, 1) := by decide +kernel
end
section
/-! GW: the good words of the tables, and each word that a walk uses among them -/
def GW : List Cond := lw_tbl.filter goodWord
theorem gw_of {w : Cond} (h : w ∈ lw_tbl) (g : goodWord w = true) : w ∈ GW := List.mem_filter.mpr ⟨h, g⟩
theorem gw_tbl : ∀ w ∈ GW, w ∈ lw_tbl := fun w h => (List.mem_filter.mp h).1
theorem GW_good : GW.all goodWord = true := List.all_eq_true.mpr (fun w h => (List.mem_filter.mp h).2)
theorem tk_t {w : Cond} (h : w ∈ tables_1) : w ∈ lw_tbl := List.mem_append_right _ h
theorem tk1 {w : Cond} {i : Nat} (h : tables_1_1[i]? = some w) (g : goodWord w = true) : w ∈ GW := gw_of (tk_t (List.mem_append_left _ (List.mem_of_getElem? h))) g
theorem tk2 {w : Cond} {i : Nat} (h : tables_1_2[i]? = some w) (g : goodWord w = true) : w ∈ GW := gw_of (tk_t (List.mem_append_right _ (List.mem_append_left _ (List.mem_of_getElem? h)))) g
theorem tk3 {w : Cond} {i : Nat} (h : tables_1_3[i]? = some w) (g : goodWord w = true) : w ∈ GW := gw_of (tk_t (List.mem_append_right _ (List.mem_append_right _ (List.mem_of_getElem? h)))) g
theorem tk0 {y : MethodName} {n i : Nat} (h : lw_privs[i]? = some (y, n)) (g : goodWord (Cond.selects y.cls y y) = true) : Cond.selects y.cls y y ∈ GW := gw_of (List.mem_append_left _ (List.mem_map.mpr ⟨(y, n), List.mem_of_getElem? h, rfl⟩)) g
theorem gw_r (ws : List Cond) (ps : List Nat) (hp : ws = ps.filterMap (fun i => lw_tbl[i]?)) (h : ws.all goodWord = true) : ∀ w ∈ ws, w ∈ GW := fun w hw => by
  have h1 := List.all_eq_true.mp h w hw
  rw [hp] at hw
  obtain ⟨i, -, hi⟩ := List.mem_filterMap.mp hw
  exact gw_of (List.mem_of_getElem? hi) h1
theorem wI_RL : Cond.initialized RL ∈ GW := tk1 (i := 0) (by decide +kernel) (by decide +kernel)
theorem wI_RX7 : Cond.initialized RX7 ∈ GW := tk1 (i := 1) (by decide +kernel) (by decide +kernel)
theorem wI_RX1 : Cond.initialized RX1 ∈ GW := tk1 (i := 2) (by decide +kernel) (by decide +kernel)
theorem wI_RX0 : Cond.initialized RX0 ∈ GW := tk1 (i := 3) (by decide +kernel) (by decide +kernel)
theorem wI_RX5 : Cond.initialized RX5 ∈ GW := tk1 (i := 4) (by decide +kernel) (by decide +kernel)
theorem wI_RX3 : Cond.initialized RX3 ∈ GW := tk1 (i := 5) (by decide +kernel) (by decide +kernel)
theorem wI_RX2 : Cond.initialized RX2 ∈ GW := tk1 (i := 6) (by decide +kernel) (by decide +kernel)
theorem wI_RX6 : Cond.initialized RX6 ∈ GW := tk1 (i := 7) (by decide +kernel) (by decide +kernel)
theorem wI_RX4 : Cond.initialized RX4 ∈ GW := tk1 (i := 8) (by decide +kernel) (by decide +kernel)
theorem wI_RJ7 : Cond.initialized RJ7 ∈ GW := tk1 (i := 9) (by decide +kernel) (by decide +kernel)
theorem wI_RJ6 : Cond.initialized RJ6 ∈ GW := tk1 (i := 10) (by decide +kernel) (by decide +kernel)
theorem wI_Throwable : Cond.initialized "java/lang/Throwable" ∈ GW := tk1 (i := 11) (by decide +kernel) (by decide +kernel)
theorem wI_Exception : Cond.initialized "java/lang/Exception" ∈ GW := tk1 (i := 12) (by decide +kernel) (by decide +kernel)
theorem wI_RuntimeException : Cond.initialized "java/lang/RuntimeException" ∈ GW := tk1 (i := 13) (by decide +kernel) (by decide +kernel)
theorem wI_IllegalArgumentException : Cond.initialized "java/lang/IllegalArgumentException" ∈ GW := tk1 (i := 14) (by decide +kernel) (by decide +kernel)
theorem wI_IllegalStateException : Cond.initialized "java/lang/IllegalStateException" ∈ GW := tk1 (i := 15) (by decide +kernel) (by decide +kernel)
theorem wI_RJ10 : Cond.initialized RJ10 ∈ GW := tk1 (i := 16) (by decide +kernel) (by decide +kernel)
theorem wI_IndexOutOfBoundsException : Cond.initialized "java/lang/IndexOutOfBoundsException" ∈ GW := tk1 (i := 17) (by decide +kernel) (by decide +kernel)
theorem wL_RL_10 : Cond.classLink RL 10 RX7 ∈ GW := tk1 (i := 18) (by decide +kernel) (by decide +kernel)
theorem wN_RX7 : Cond.instantiable RX7 6 ∈ GW := tk1 (i := 19) (by decide +kernel) (by decide +kernel)
theorem wM_RL_107 : Cond.methodLink RL 107 yX7_init ∈ GW := tk1 (i := 20) (by decide +kernel) (by decide +kernel)
theorem wIm_yX7_init : Cond.instanceMethod yX7_init ∈ GW := tk1 (i := 21) (by decide +kernel) (by decide +kernel)
theorem wC_yX7_init : Cond.code yX7_init cX7_init 1 none ∈ GW := tk1 (i := 22) (by decide +kernel) (by decide +kernel)
theorem wM_RX7_1 : Cond.methodLink RX7 1 objectInit ∈ GW := tk1 (i := 23) (by decide +kernel) (by decide +kernel)
theorem wIm_objectInit : Cond.instanceMethod objectInit ∈ GW := tk1 (i := 24) (by decide +kernel) (by decide +kernel)
theorem wL_RX7_7 : Cond.classLink RX7 7 RX1 ∈ GW := tk1 (i := 26) (by decide +kernel) (by decide +kernel)
theorem wN_RX1 : Cond.instantiable RX1 4 ∈ GW := tk1 (i := 27) (by decide +kernel) (by decide +kernel)
theorem wMN_RX7_9 : Cond.methodLinkNest RX7 9 yX1_init RX7 ∈ lw_tbl := List.mem_of_getElem? (i := 35) (by decide +kernel)
theorem wIm_yX1_init : Cond.instanceMethod yX1_init ∈ GW := tk1 (i := 29) (by decide +kernel) (by decide +kernel)
theorem wC_yX1_init : Cond.code yX1_init cX1_init 1 none ∈ GW := tk1 (i := 30) (by decide +kernel) (by decide +kernel)
theorem wM_RX1_3 : Cond.methodLink RX1 3 objectInit ∈ GW := tk1 (i := 31) (by decide +kernel) (by decide +kernel)
theorem wF_RX1_9 : Cond.fieldLink RX1 9 RX1 "table" "[I" ∈ GW := tk1 (i := 32) (by decide +kernel) (by decide +kernel)
theorem wF_RX1_15 : Cond.fieldLink RX1 15 RX1 "size" "I" ∈ GW := tk1 (i := 33) (by decide +kernel) (by decide +kernel)
theorem wF_RX1_19 : Cond.fieldLink RX1 19 RX1 "moment" "I" ∈ GW := tk1 (i := 34) (by decide +kernel) (by decide +kernel)
theorem wF_RX1_22 : Cond.fieldLink RX1 22 RX1 "version" "I" ∈ GW := tk1 (i := 35) (by decide +kernel) (by decide +kernel)
theorem wA_int : Cond.arrayClass .int ∈ GW := tk1 (i := 45) (by decide +kernel) (by decide +kernel)
theorem wL_RX7_16 : Cond.classLink RX7 16 RX0 ∈ GW := tk1 (i := 46) (by decide +kernel) (by decide +kernel)
theorem wN_RX0 : Cond.instantiable RX0 2 ∈ GW := tk1 (i := 47) (by decide +kernel) (by decide +kernel)
theorem wMN_RX7_18 : Cond.methodLinkNest RX7 18 yX0_init RX7 ∈ lw_tbl := List.mem_of_getElem? (i := 55) (by decide +kernel)
theorem wIm_yX0_init : Cond.instanceMethod yX0_init ∈ GW := tk1 (i := 49) (by decide +kernel) (by decide +kernel)
theorem wC_yX0_init : Cond.code yX0_init cX0_init 1 none ∈ GW := tk1 (i := 50) (by decide +kernel) (by decide +kernel)
theorem wM_RX0_3 : Cond.methodLink RX0 3 objectInit ∈ GW := tk1 (i := 51) (by decide +kernel) (by decide +kernel)
theorem wF_RX0_11 : Cond.fieldLink RX0 11 RX0 "states" "[I" ∈ GW := tk1 (i := 52) (by decide +kernel) (by decide +kernel)
theorem wF_RX0_17 : Cond.fieldLink RX0 17 RX0 "size" "I" ∈ GW := tk1 (i := 53) (by decide +kernel) (by decide +kernel)
theorem wL_RX7_23 : Cond.classLink RX7 23 RX5 ∈ GW := tk1 (i := 59) (by decide +kernel) (by decide +kernel)
theorem wN_RX5 : Cond.instantiable RX5 3 ∈ GW := tk1 (i := 60) (by decide +kernel) (by decide +kernel)
theorem wMN_RX7_25 : Cond.methodLinkNest RX7 25 yX5_init RX7 ∈ lw_tbl := List.mem_of_getElem? (i := 68) (by decide +kernel)
theorem wIm_yX5_init : Cond.instanceMethod yX5_init ∈ GW := tk1 (i := 62) (by decide +kernel) (by decide +kernel)
theorem wC_yX5_init : Cond.code yX5_init cX5_init 1 none ∈ GW := tk1 (i := 63) (by decide +kernel) (by decide +kernel)
theorem wM_RX5_3 : Cond.methodLink RX5 3 objectInit ∈ GW := tk1 (i := 64) (by decide +kernel) (by decide +kernel)
theorem wL_RX5_15 : Cond.classLink RX5 15 RX3 ∈ GW := tk1 (i := 65) (by decide +kernel) (by decide +kernel)
theorem wN_RX3 : Cond.instantiable RX3 6 ∈ GW := tk1 (i := 66) (by decide +kernel) (by decide +kernel)
theorem wMN_RX5_17 : Cond.methodLinkNest RX5 17 yX3_init RX7 ∈ lw_tbl := List.mem_of_getElem? (i := 74) (by decide +kernel)
theorem wIm_yX3_init : Cond.instanceMethod yX3_init ∈ GW := tk1 (i := 68) (by decide +kernel) (by decide +kernel)
theorem wC_yX3_init : Cond.code yX3_init cX3_init 1 none ∈ GW := tk1 (i := 69) (by decide +kernel) (by decide +kernel)
theorem wM_RX3_3 : Cond.methodLink RX3 3 objectInit ∈ GW := tk1 (i := 70) (by decide +kernel) (by decide +kernel)
theorem wF_RX3_11 : Cond.fieldLink RX3 11 RX3 "stage" "I" ∈ GW := tk1 (i := 71) (by decide +kernel) (by decide +kernel)
theorem wF_RX3_15 : Cond.fieldLink RX3 15 RX3 "number" "I" ∈ GW := tk1 (i := 72) (by decide +kernel) (by decide +kernel)
theorem wF_RX3_18 : Cond.fieldLink RX3 18 RX3 "negative" "Z" ∈ GW := tk1 (i := 73) (by decide +kernel) (by decide +kernel)
theorem wF_RX3_22 : Cond.fieldLink RX3 22 RX3 "slope" "I" ∈ GW := tk1 (i := 74) (by decide +kernel) (by decide +kernel)
theorem wF_RX3_25 : Cond.fieldLink RX3 25 RX3 "offset" "I" ∈ GW := tk1 (i := 75) (by decide +kernel) (by decide +kernel)
theorem wF_RX3_28 : Cond.fieldLink RX3 28 RX3 "firstMoment" "I" ∈ GW := tk1 (i := 76) (by decide +kernel) (by decide +kernel)
theorem wF_RX5_9 : Cond.fieldLink RX5 9 RX5 "codes" "[I" ∈ GW := tk1 (i := 90) (by decide +kernel) (by decide +kernel)
theorem wF_RX5_18 : Cond.fieldLink RX5 18 RX5 "reader" "LLineLives$Reader;" ∈ GW := tk1 (i := 91) (by decide +kernel) (by decide +kernel)
theorem wF_RX5_22 : Cond.fieldLink RX5 22 RX5 "length" "I" ∈ GW := tk1 (i := 92) (by decide +kernel) (by decide +kernel)
theorem wL_RX7_30 : Cond.classLink RX7 30 RX2 ∈ GW := tk1 (i := 100) (by decide +kernel) (by decide +kernel)
theorem wN_RX2 : Cond.instantiable RX2 5 ∈ GW := tk1 (i := 101) (by decide +kernel) (by decide +kernel)
theorem wM_RX7_32 : Cond.methodLink RX7 32 yX2_init ∈ GW := tk1 (i := 102) (by decide +kernel) (by decide +kernel)
theorem wIm_yX2_init : Cond.instanceMethod yX2_init ∈ GW := tk1 (i := 103) (by decide +kernel) (by decide +kernel)
theorem wC_yX2_init : Cond.code yX2_init cX2_init 2 none ∈ GW := tk1 (i := 104) (by decide +kernel) (by decide +kernel)
theorem wM_RX2_3 : Cond.methodLink RX2 3 objectInit ∈ GW := tk1 (i := 105) (by decide +kernel) (by decide +kernel)
theorem wF_RX2_25 : Cond.fieldLink RX2 25 RX2 "lines" "LLineLives$Lines;" ∈ GW := tk1 (i := 106) (by decide +kernel) (by decide +kernel)
theorem wF_RX2_9 : Cond.fieldLink RX2 9 RX2 "lowest" "[I" ∈ GW := tk1 (i := 107) (by decide +kernel) (by decide +kernel)
theorem wF_RX2_15 : Cond.fieldLink RX2 15 RX2 "starts" "[I" ∈ GW := tk1 (i := 108) (by decide +kernel) (by decide +kernel)
theorem wF_RX2_18 : Cond.fieldLink RX2 18 RX2 "rows" "I" ∈ GW := tk1 (i := 109) (by decide +kernel) (by decide +kernel)
theorem wF_RX2_22 : Cond.fieldLink RX2 22 RX2 "version" "I" ∈ GW := tk1 (i := 110) (by decide +kernel) (by decide +kernel)
theorem wL_RX7_39 : Cond.classLink RX7 39 RX6 ∈ GW := tk1 (i := 122) (by decide +kernel) (by decide +kernel)
theorem wN_RX6 : Cond.instantiable RX6 6 ∈ GW := tk1 (i := 123) (by decide +kernel) (by decide +kernel)
theorem wM_RX7_41 : Cond.methodLink RX7 41 yX6_init ∈ GW := tk1 (i := 124) (by decide +kernel) (by decide +kernel)
theorem wIm_yX6_init : Cond.instanceMethod yX6_init ∈ GW := tk1 (i := 125) (by decide +kernel) (by decide +kernel)
theorem wC_yX6_init : Cond.code yX6_init cX6_init 4 none ∈ GW := tk1 (i := 126) (by decide +kernel) (by decide +kernel)
theorem wM_RX6_3 : Cond.methodLink RX6 3 objectInit ∈ GW := tk1 (i := 127) (by decide +kernel) (by decide +kernel)
theorem wF_RX6_28 : Cond.fieldLink RX6 28 RX6 "lines" "LLineLives$Lines;" ∈ GW := tk1 (i := 128) (by decide +kernel) (by decide +kernel)
theorem wF_RX6_9 : Cond.fieldLink RX6 9 RX6 "firstPlaces" "[I" ∈ GW := tk1 (i := 129) (by decide +kernel) (by decide +kernel)
theorem wF_RX6_15 : Cond.fieldLink RX6 15 RX6 "lastPlaces" "[I" ∈ GW := tk1 (i := 130) (by decide +kernel) (by decide +kernel)
theorem wF_RX6_18 : Cond.fieldLink RX6 18 RX6 "kept" "[I" ∈ GW := tk1 (i := 131) (by decide +kernel) (by decide +kernel)
theorem wF_RX6_21 : Cond.fieldLink RX6 21 RX6 "steps" "[I" ∈ GW := tk1 (i := 132) (by decide +kernel) (by decide +kernel)
theorem wF_RX6_24 : Cond.fieldLink RX6 24 RX6 "version" "I" ∈ GW := tk1 (i := 133) (by decide +kernel) (by decide +kernel)
theorem wL_RX7_46 : Cond.classLink RX7 46 RX4 ∈ GW := tk1 (i := 147) (by decide +kernel) (by decide +kernel)
theorem wN_RX4 : Cond.instantiable RX4 3 ∈ GW := tk1 (i := 148) (by decide +kernel) (by decide +kernel)
theorem wM_RX7_48 : Cond.methodLink RX7 48 yX4_init ∈ GW := tk1 (i := 149) (by decide +kernel) (by decide +kernel)
theorem wIm_yX4_init : Cond.instanceMethod yX4_init ∈ GW := tk1 (i := 150) (by decide +kernel) (by decide +kernel)
theorem wC_yX4_init : Cond.code yX4_init cX4_init 2 none ∈ GW := tk1 (i := 151) (by decide +kernel) (by decide +kernel)
theorem wM_RX4_3 : Cond.methodLink RX4 3 objectInit ∈ GW := tk1 (i := 152) (by decide +kernel) (by decide +kernel)
theorem wF_RX4_19 : Cond.fieldLink RX4 19 RX4 "lines" "LLineLives$Lines;" ∈ GW := tk1 (i := 153) (by decide +kernel) (by decide +kernel)
theorem wF_RX4_9 : Cond.fieldLink RX4 9 RX4 "firstMoments" "[I" ∈ GW := tk1 (i := 154) (by decide +kernel) (by decide +kernel)
theorem wF_RX4_15 : Cond.fieldLink RX4 15 RX4 "version" "I" ∈ GW := tk1 (i := 155) (by decide +kernel) (by decide +kernel)
theorem wF_RX7_10 : Cond.fieldLink RX7 10 RX7 "lines" "LLineLives$Lines;" ∈ GW := tk1 (i := 163) (by decide +kernel) (by decide +kernel)
theorem wF_RX7_19 : Cond.fieldLink RX7 19 RX7 "history" "LLineLives$History;" ∈ GW := tk1 (i := 164) (by decide +kernel) (by decide +kernel)
theorem wF_RX7_26 : Cond.fieldLink RX7 26 RX7 "text" "LLineLives$Text;" ∈ GW := tk1 (i := 165) (by decide +kernel) (by decide +kernel)
theorem wF_RX7_35 : Cond.fieldLink RX7 35 RX7 "present" "LLineLives$Present;" ∈ GW := tk1 (i := 166) (by decide +kernel) (by decide +kernel)
theorem wF_RX7_42 : Cond.fieldLink RX7 42 RX7 "tree" "LLineLives$Tree;" ∈ GW := tk1 (i := 167) (by decide +kernel) (by decide +kernel)
theorem wF_RX7_49 : Cond.fieldLink RX7 49 RX7 "reigns" "LLineLives$Reigns;" ∈ GW := tk1 (i := 168) (by decide +kernel) (by decide +kernel)
theorem wM_RL_15 : Cond.methodLink RL 15 yX7_count ∈ GW := tk1 (i := 182) (by decide +kernel) (by decide +kernel)
theorem wIm_yX7_count : Cond.instanceMethod yX7_count ∈ GW := tk1 (i := 183) (by decide +kernel) (by decide +kernel)
theorem wSe_yX7_count : Cond.selects RX7 yX7_count yX7_count ∈ GW := tk1 (i := 184) (by decide +kernel) (by decide +kernel)
theorem wC_yX7_count : Cond.code yX7_count cX7_count 2 (some .int) ∈ GW := tk1 (i := 185) (by decide +kernel) (by decide +kernel)
theorem wM_RX7_141 : Cond.methodLink RX7 141 yX1_moment ∈ GW := tk1 (i := 186) (by decide +kernel) (by decide +kernel)
theorem wIm_yX1_moment : Cond.instanceMethod yX1_moment ∈ GW := tk1 (i := 187) (by decide +kernel) (by decide +kernel)
theorem wSe_yX1_moment : Cond.selects RX1 yX1_moment yX1_moment ∈ GW := tk1 (i := 188) (by decide +kernel) (by decide +kernel)
theorem wC_yX1_moment : Cond.code yX1_moment cX1_moment 1 (some .int) ∈ GW := tk1 (i := 189) (by decide +kernel) (by decide +kernel)
theorem wM_RX7_67 : Cond.methodLink RX7 67 yX1_size ∈ GW := tk1 (i := 190) (by decide +kernel) (by decide +kernel)
theorem wIm_yX1_size : Cond.instanceMethod yX1_size ∈ GW := tk1 (i := 191) (by decide +kernel) (by decide +kernel)
theorem wSe_yX1_size : Cond.selects RX1 yX1_size yX1_size ∈ GW := tk1 (i := 192) (by decide +kernel) (by decide +kernel)
theorem wC_yX1_size : Cond.code yX1_size cX1_size 1 (some .int) ∈ GW := tk1 (i := 193) (by decide +kernel) (by decide +kernel)
theorem wM_RX7_240 : Cond.methodLink RX7 240 yX1_living ∈ GW := tk1 (i := 194) (by decide +kernel) (by decide +kernel)
theorem wIm_yX1_living : Cond.instanceMethod yX1_living ∈ GW := tk1 (i := 195) (by decide +kernel) (by decide +kernel)
theorem wSe_yX1_living : Cond.selects RX1 yX1_living yX1_living ∈ GW := tk1 (i := 196) (by decide +kernel) (by decide +kernel)
theorem wC_yX1_living : Cond.code yX1_living cX1_living 3 (some .int) ∈ GW := tk1 (i := 197) (by decide +kernel) (by decide +kernel)
theorem wM_RX1_43 : Cond.methodLink RX1 43 yX1_lives ∈ GW := tk1 (i := 198) (by decide +kernel) (by decide +kernel)
theorem wIm_yX1_lives : Cond.instanceMethod yX1_lives ∈ GW := tk1 (i := 199) (by decide +kernel) (by decide +kernel)
theorem wSe_yX1_lives : Cond.selects RX1 yX1_lives yX1_lives ∈ GW := tk1 (i := 200) (by decide +kernel) (by decide +kernel)
theorem wC_yX1_lives : Cond.code yX1_lives cX1_lives 3 (some .boolean) ∈ GW := tk1 (i := 201) (by decide +kernel) (by decide +kernel)
theorem wM_RX1_39 : Cond.methodLink RX1 39 yX1_property ∈ GW := tk1 (i := 202) (by decide +kernel) (by decide +kernel)
theorem wIm_yX1_property : Cond.instanceMethod yX1_property ∈ GW := tk1 (i := 203) (by decide +kernel) (by decide +kernel)
theorem wSe_yX1_property : Cond.selects RX1 yX1_property yX1_property ∈ GW := tk1 (i := 204) (by decide +kernel) (by decide +kernel)
theorem wC_yX1_property : Cond.code yX1_property cX1_property 3 (some .int) ∈ GW := tk1 (i := 205) (by decide +kernel) (by decide +kernel)
theorem wM_RX7_234 : Cond.methodLink RX7 234 yX2_rowCount ∈ GW := tk1 (i := 206) (by decide +kernel) (by decide +kernel)
theorem wIm_yX2_rowCount : Cond.instanceMethod yX2_rowCount ∈ GW := tk1 (i := 207) (by decide +kernel) (by decide +kernel)
theorem wSe_yX2_rowCount : Cond.selects RX2 yX2_rowCount yX2_rowCount ∈ GW := tk1 (i := 208) (by decide +kernel) (by decide +kernel)
theorem wC_yX2_rowCount : Cond.code yX2_rowCount cX2_rowCount 1 (some .int) ∈ GW := tk1 (i := 209) (by decide +kernel) (by decide +kernel)
theorem wM_RX2_29 : Cond.methodLink RX2 29 yX2_renew ∈ GW := tk1 (i := 210) (by decide +kernel) (by decide +kernel)
theorem wIm_yX2_renew : Cond.instanceMethod yX2_renew ∈ GW := tk1 (i := 212) (by decide +kernel) (by decide +kernel)
theorem wC_yX2_renew : Cond.code yX2_renew cX2_renew 2 none ∈ GW := tk1 (i := 213) (by decide +kernel) (by decide +kernel)
theorem wM_RX2_32 : Cond.methodLink RX2 32 yX1_version ∈ GW := tk1 (i := 214) (by decide +kernel) (by decide +kernel)
theorem wIm_yX1_version : Cond.instanceMethod yX1_version ∈ GW := tk1 (i := 215) (by decide +kernel) (by decide +kernel)
theorem wSe_yX1_version : Cond.selects RX1 yX1_version yX1_version ∈ GW := tk1 (i := 216) (by decide +kernel) (by decide +kernel)
theorem wC_yX1_version : Cond.code yX1_version cX1_version 1 (some .int) ∈ GW := tk1 (i := 217) (by decide +kernel) (by decide +kernel)
theorem wM_RX2_37 : Cond.methodLink RX2 37 yX1_moment ∈ GW := tk1 (i := 218) (by decide +kernel) (by decide +kernel)
theorem wM_RX2_40 : Cond.methodLink RX2 40 yX1_lowestBut ∈ GW := tk1 (i := 219) (by decide +kernel) (by decide +kernel)
theorem wIm_yX1_lowestBut : Cond.instanceMethod yX1_lowestBut ∈ GW := tk1 (i := 220) (by decide +kernel) (by decide +kernel)
theorem wSe_yX1_lowestBut : Cond.selects RX1 yX1_lowestBut yX1_lowestBut ∈ GW := tk1 (i := 221) (by decide +kernel) (by decide +kernel)
theorem wC_yX1_lowestBut : Cond.code yX1_lowestBut cX1_lowestBut 8 (some .int) ∈ GW := tk1 (i := 222) (by decide +kernel) (by decide +kernel)
theorem wM_RX1_50 : Cond.methodLink RX1 50 yX1_counts ∈ GW := tk1 (i := 223) (by decide +kernel) (by decide +kernel)
theorem wIm_yX1_counts : Cond.instanceMethod yX1_counts ∈ GW := tk1 (i := 224) (by decide +kernel) (by decide +kernel)
theorem wSe_yX1_counts : Cond.selects RX1 yX1_counts yX1_counts ∈ GW := tk1 (i := 225) (by decide +kernel) (by decide +kernel)
theorem wC_yX1_counts : Cond.code yX1_counts cX1_counts 5 (some .boolean) ∈ GW := tk1 (i := 226) (by decide +kernel) (by decide +kernel)
theorem wM_RX1_47 : Cond.methodLink RX1 47 yX1_valueAt ∈ GW := tk1 (i := 227) (by decide +kernel) (by decide +kernel)
theorem wIm_yX1_valueAt : Cond.instanceMethod yX1_valueAt ∈ GW := tk1 (i := 228) (by decide +kernel) (by decide +kernel)
theorem wSe_yX1_valueAt : Cond.selects RX1 yX1_valueAt yX1_valueAt ∈ GW := tk1 (i := 229) (by decide +kernel) (by decide +kernel)
theorem wC_yX1_valueAt : Cond.code yX1_valueAt cX1_valueAt 3 (some .int) ∈ GW := tk1 (i := 230) (by decide +kernel) (by decide +kernel)
theorem wM_RX7_185 : Cond.methodLink RX7 185 yX2_placesOf ∈ GW := tk1 (i := 231) (by decide +kernel) (by decide +kernel)
theorem wIm_yX2_placesOf : Cond.instanceMethod yX2_placesOf ∈ GW := tk1 (i := 232) (by decide +kernel) (by decide +kernel)
theorem wSe_yX2_placesOf : Cond.selects RX2 yX2_placesOf yX2_placesOf ∈ GW := tk1 (i := 233) (by decide +kernel) (by decide +kernel)
theorem wC_yX2_placesOf : Cond.code yX2_placesOf cX2_placesOf 4 (some .int) ∈ GW := tk1 (i := 234) (by decide +kernel) (by decide +kernel)
theorem wM_RX7_243 : Cond.methodLink RX7 243 yX6_allSteps ∈ GW := tk1 (i := 235) (by decide +kernel) (by decide +kernel)
theorem wIm_yX6_allSteps : Cond.instanceMethod yX6_allSteps ∈ GW := tk1 (i := 236) (by decide +kernel) (by decide +kernel)
theorem wSe_yX6_allSteps : Cond.selects RX6 yX6_allSteps yX6_allSteps ∈ GW := tk1 (i := 237) (by decide +kernel) (by decide +kernel)
theorem wC_yX6_allSteps : Cond.code yX6_allSteps cX6_allSteps 3 (some .int) ∈ GW := tk1 (i := 238) (by decide +kernel) (by decide +kernel)
theorem wM_RX6_36 : Cond.methodLink RX6 36 yX6_renew ∈ GW := tk1 (i := 239) (by decide +kernel) (by decide +kernel)
theorem wIm_yX6_renew : Cond.instanceMethod yX6_renew ∈ GW := tk2 (i := 1) (by decide +kernel) (by decide +kernel)
theorem wC_yX6_renew : Cond.code yX6_renew cX6_renew 2 none ∈ GW := tk2 (i := 2) (by decide +kernel) (by decide +kernel)
theorem wM_RX6_39 : Cond.methodLink RX6 39 yX1_version ∈ GW := tk2 (i := 3) (by decide +kernel) (by decide +kernel)
theorem wM_RX6_44 : Cond.methodLink RX6 44 yJ7_fill_53178 ∈ GW := tk2 (i := 4) (by decide +kernel) (by decide +kernel)
theorem wSt_yJ7_fill_53178 : Cond.static yJ7_fill_53178 ∈ GW := tk2 (i := 5) (by decide +kernel) (by decide +kernel)
theorem wC_yJ7_fill_53178 : Cond.code yJ7_fill_53178 cJ7_fill_53178 4 none ∈ GW := tk2 (i := 6) (by decide +kernel) (by decide +kernel)
theorem wM_RX6_50 : Cond.methodLink RX6 50 yX1_size ∈ GW := tk2 (i := 7) (by decide +kernel) (by decide +kernel)
theorem wM_RX6_53 : Cond.methodLink RX6 53 yX1_moment ∈ GW := tk2 (i := 8) (by decide +kernel) (by decide +kernel)
theorem wM_RX6_56 : Cond.methodLink RX6 56 yX1_lives ∈ GW := tk2 (i := 9) (by decide +kernel) (by decide +kernel)
theorem wM_RX6_60 : Cond.methodLink RX6 60 yX6_put ∈ GW := tk2 (i := 10) (by decide +kernel) (by decide +kernel)
theorem wIm_yX6_put : Cond.instanceMethod yX6_put ∈ GW := tk2 (i := 12) (by decide +kernel) (by decide +kernel)
theorem wC_yX6_put : Cond.code yX6_put cX6_put 8 none ∈ GW := tk2 (i := 13) (by decide +kernel) (by decide +kernel)
theorem wM_RX6_64 : Cond.methodLink RX6 64 yX1_property ∈ GW := tk2 (i := 14) (by decide +kernel) (by decide +kernel)
theorem wM_RX6_68 : Cond.methodLink RX6 68 yX1_isLower ∈ GW := tk2 (i := 15) (by decide +kernel) (by decide +kernel)
theorem wIm_yX1_isLower : Cond.instanceMethod yX1_isLower ∈ GW := tk2 (i := 16) (by decide +kernel) (by decide +kernel)
theorem wSe_yX1_isLower : Cond.selects RX1 yX1_isLower yX1_isLower ∈ GW := tk2 (i := 17) (by decide +kernel) (by decide +kernel)
theorem wC_yX1_isLower : Cond.code yX1_isLower cX1_isLower 5 (some .boolean) ∈ GW := tk2 (i := 18) (by decide +kernel) (by decide +kernel)
theorem wM_RX7_188 : Cond.methodLink RX7 188 yX6_nodesOf ∈ GW := tk2 (i := 19) (by decide +kernel) (by decide +kernel)
theorem wIm_yX6_nodesOf : Cond.instanceMethod yX6_nodesOf ∈ GW := tk2 (i := 20) (by decide +kernel) (by decide +kernel)
theorem wSe_yX6_nodesOf : Cond.selects RX6 yX6_nodesOf yX6_nodesOf ∈ GW := tk2 (i := 21) (by decide +kernel) (by decide +kernel)
theorem wC_yX6_nodesOf : Cond.code yX6_nodesOf cX6_nodesOf 4 (some .int) ∈ GW := tk2 (i := 22) (by decide +kernel) (by decide +kernel)
theorem wM_RX7_127 : Cond.methodLink RX7 127 yX4_neverLowest ∈ GW := tk2 (i := 23) (by decide +kernel) (by decide +kernel)
theorem wIm_yX4_neverLowest : Cond.instanceMethod yX4_neverLowest ∈ GW := tk2 (i := 24) (by decide +kernel) (by decide +kernel)
theorem wSe_yX4_neverLowest : Cond.selects RX4 yX4_neverLowest yX4_neverLowest ∈ GW := tk2 (i := 25) (by decide +kernel) (by decide +kernel)
theorem wC_yX4_neverLowest : Cond.code yX4_neverLowest cX4_neverLowest 3 (some .int) ∈ GW := tk2 (i := 26) (by decide +kernel) (by decide +kernel)
theorem wM_RX4_23 : Cond.methodLink RX4 23 yX4_renew ∈ GW := tk2 (i := 27) (by decide +kernel) (by decide +kernel)
theorem wIm_yX4_renew : Cond.instanceMethod yX4_renew ∈ GW := tk2 (i := 29) (by decide +kernel) (by decide +kernel)
theorem wC_yX4_renew : Cond.code yX4_renew cX4_renew 2 none ∈ GW := tk2 (i := 30) (by decide +kernel) (by decide +kernel)
theorem wM_RX4_32 : Cond.methodLink RX4 32 yX1_version ∈ GW := tk2 (i := 31) (by decide +kernel) (by decide +kernel)
theorem wM_RX4_34 : Cond.methodLink RX4 34 yJ7_fill_53178 ∈ GW := tk2 (i := 32) (by decide +kernel) (by decide +kernel)
theorem wM_RX4_40 : Cond.methodLink RX4 40 yX1_livesChangeAt ∈ GW := tk2 (i := 33) (by decide +kernel) (by decide +kernel)
theorem wIm_yX1_livesChangeAt : Cond.instanceMethod yX1_livesChangeAt ∈ GW := tk2 (i := 34) (by decide +kernel) (by decide +kernel)
theorem wSe_yX1_livesChangeAt : Cond.selects RX1 yX1_livesChangeAt yX1_livesChangeAt ∈ GW := tk2 (i := 35) (by decide +kernel) (by decide +kernel)
theorem wC_yX1_livesChangeAt : Cond.code yX1_livesChangeAt cX1_livesChangeAt 3 (some .boolean) ∈ GW := tk2 (i := 36) (by decide +kernel) (by decide +kernel)
theorem wM_RX4_44 : Cond.methodLink RX4 44 yX4_note ∈ GW := tk2 (i := 37) (by decide +kernel) (by decide +kernel)
theorem wIm_yX4_note : Cond.instanceMethod yX4_note ∈ GW := tk2 (i := 39) (by decide +kernel) (by decide +kernel)
theorem wC_yX4_note : Cond.code yX4_note cX4_note 4 none ∈ GW := tk2 (i := 40) (by decide +kernel) (by decide +kernel)
theorem wM_RX4_48 : Cond.methodLink RX4 48 yX1_lowestBut ∈ GW := tk2 (i := 41) (by decide +kernel) (by decide +kernel)
theorem wM_RX4_26 : Cond.methodLink RX4 26 yX1_size ∈ GW := tk2 (i := 42) (by decide +kernel) (by decide +kernel)
theorem wM_RX7_130 : Cond.methodLink RX7 130 yJ6_bitCount_0f7a4 ∈ GW := tk2 (i := 43) (by decide +kernel) (by decide +kernel)
theorem wSt_yJ6_bitCount_0f7a4 : Cond.static yJ6_bitCount_0f7a4 ∈ GW := tk2 (i := 44) (by decide +kernel) (by decide +kernel)
theorem wC_yJ6_bitCount_0f7a4 : Cond.code yJ6_bitCount_0f7a4 cJ6_bitCount_0f7a4 1 (some .int) ∈ GW := tk2 (i := 45) (by decide +kernel) (by decide +kernel)
theorem wK_RJ6_265 : Cond.constant RJ6 265 (1431655765) ∈ GW := tk2 (i := 46) (by decide +kernel) (by decide +kernel)
theorem wK_RJ6_266 : Cond.constant RJ6 266 (858993459) ∈ GW := tk2 (i := 47) (by decide +kernel) (by decide +kernel)
theorem wK_RJ6_267 : Cond.constant RJ6 267 (252645135) ∈ GW := tk2 (i := 48) (by decide +kernel) (by decide +kernel)
theorem wM_RX7_177 : Cond.methodLink RX7 177 yX0_size ∈ GW := tk2 (i := 49) (by decide +kernel) (by decide +kernel)
theorem wIm_yX0_size : Cond.instanceMethod yX0_size ∈ GW := tk2 (i := 50) (by decide +kernel) (by decide +kernel)
theorem wSe_yX0_size : Cond.selects RX0 yX0_size yX0_size ∈ GW := tk2 (i := 51) (by decide +kernel) (by decide +kernel)
theorem wC_yX0_size : Cond.code yX0_size cX0_size 1 (some .int) ∈ GW := tk2 (i := 52) (by decide +kernel) (by decide +kernel)
theorem wL_RX7_60 : Cond.classLink RX7 60 "java/lang/IllegalArgumentException" ∈ GW := tk2 (i := 53) (by decide +kernel) (by decide +kernel)
theorem wA_byte : Cond.arrayClass .byte ∈ GW := tk2 (i := 120) (by decide +kernel) (by decide +kernel)
theorem wM_RL_112 : Cond.methodLink RL 112 yL_places ∈ GW := tk2 (i := 121) (by decide +kernel) (by decide +kernel)
theorem wSt_yL_places : Cond.static yL_places ∈ GW := tk2 (i := 122) (by decide +kernel) (by decide +kernel)
theorem wC_yL_places : Cond.code yL_places cL_places 12 (some .boolean) ∈ GW := tk2 (i := 123) (by decide +kernel) (by decide +kernel)
theorem wM_RL_48 : Cond.methodLink RL 48 yX7_row ∈ GW := tk2 (i := 124) (by decide +kernel) (by decide +kernel)
theorem wIm_yX7_row : Cond.instanceMethod yX7_row ∈ GW := tk2 (i := 125) (by decide +kernel) (by decide +kernel)
theorem wSe_yX7_row : Cond.selects RX7 yX7_row yX7_row ∈ GW := tk2 (i := 126) (by decide +kernel) (by decide +kernel)
theorem wC_yX7_row : Cond.code yX7_row cX7_row 4 (some .int) ∈ GW := tk2 (i := 127) (by decide +kernel) (by decide +kernel)
theorem wM_RX7_237 : Cond.methodLink RX7 237 yX2_rowStart ∈ GW := tk2 (i := 129) (by decide +kernel) (by decide +kernel)
theorem wIm_yX2_rowStart : Cond.instanceMethod yX2_rowStart ∈ GW := tk2 (i := 130) (by decide +kernel) (by decide +kernel)
theorem wSe_yX2_rowStart : Cond.selects RX2 yX2_rowStart yX2_rowStart ∈ GW := tk2 (i := 131) (by decide +kernel) (by decide +kernel)
theorem wC_yX2_rowStart : Cond.code yX2_rowStart cX2_rowStart 2 (some .int) ∈ GW := tk2 (i := 132) (by decide +kernel) (by decide +kernel)
theorem wM_RX7_202 : Cond.methodLink RX7 202 yX2_lineAt ∈ GW := tk2 (i := 133) (by decide +kernel) (by decide +kernel)
theorem wIm_yX2_lineAt : Cond.instanceMethod yX2_lineAt ∈ GW := tk2 (i := 134) (by decide +kernel) (by decide +kernel)
theorem wSe_yX2_lineAt : Cond.selects RX2 yX2_lineAt yX2_lineAt ∈ GW := tk2 (i := 135) (by decide +kernel) (by decide +kernel)
theorem wC_yX2_lineAt : Cond.code yX2_lineAt cX2_lineAt 2 (some .int) ∈ GW := tk2 (i := 136) (by decide +kernel) (by decide +kernel)
theorem wM_RL_51 : Cond.methodLink RL 51 yX7_lowest ∈ GW := tk2 (i := 137) (by decide +kernel) (by decide +kernel)
theorem wIm_yX7_lowest : Cond.instanceMethod yX7_lowest ∈ GW := tk2 (i := 138) (by decide +kernel) (by decide +kernel)
theorem wSe_yX7_lowest : Cond.selects RX7 yX7_lowest yX7_lowest ∈ GW := tk2 (i := 139) (by decide +kernel) (by decide +kernel)
theorem wC_yX7_lowest : Cond.code yX7_lowest cX7_lowest 3 (some .int) ∈ GW := tk2 (i := 140) (by decide +kernel) (by decide +kernel)
theorem wM_RX7_115 : Cond.methodLink RX7 115 yX7_isPlace ∈ GW := tk2 (i := 141) (by decide +kernel) (by decide +kernel)
theorem wSt_yX7_isPlace : Cond.static yX7_isPlace ∈ GW := tk2 (i := 142) (by decide +kernel) (by decide +kernel)
theorem wC_yX7_isPlace : Cond.code yX7_isPlace cX7_isPlace 1 (some .boolean) ∈ GW := tk2 (i := 143) (by decide +kernel) (by decide +kernel)
theorem wM_RX7_136 : Cond.methodLink RX7 136 yX7_isMoment ∈ GW := tk2 (i := 144) (by decide +kernel) (by decide +kernel)
theorem wSt_yX7_isMoment : Cond.static yX7_isMoment ∈ GW := tk2 (i := 145) (by decide +kernel) (by decide +kernel)
theorem wC_yX7_isMoment : Cond.code yX7_isMoment cX7_isMoment 1 (some .boolean) ∈ GW := tk2 (i := 146) (by decide +kernel) (by decide +kernel)
theorem wM_RX7_196 : Cond.methodLink RX7 196 yX1_lowestBut ∈ GW := tk2 (i := 148) (by decide +kernel) (by decide +kernel)
theorem wM_RL_54 : Cond.methodLink RL 54 yX7_ranked ∈ GW := tk2 (i := 149) (by decide +kernel) (by decide +kernel)
theorem wIm_yX7_ranked : Cond.instanceMethod yX7_ranked ∈ GW := tk2 (i := 150) (by decide +kernel) (by decide +kernel)
theorem wSe_yX7_ranked : Cond.selects RX7 yX7_ranked yX7_ranked ∈ GW := tk2 (i := 151) (by decide +kernel) (by decide +kernel)
theorem wC_yX7_ranked : Cond.code yX7_ranked cX7_ranked 4 (some .int) ∈ GW := tk2 (i := 152) (by decide +kernel) (by decide +kernel)
theorem wM_RX7_209 : Cond.methodLink RX7 209 yX1_counts ∈ GW := tk2 (i := 154) (by decide +kernel) (by decide +kernel)
theorem wM_RX7_212 : Cond.methodLink RX7 212 yX1_rankOf ∈ GW := tk2 (i := 155) (by decide +kernel) (by decide +kernel)
theorem wIm_yX1_rankOf : Cond.instanceMethod yX1_rankOf ∈ GW := tk2 (i := 156) (by decide +kernel) (by decide +kernel)
theorem wSe_yX1_rankOf : Cond.selects RX1 yX1_rankOf yX1_rankOf ∈ GW := tk2 (i := 157) (by decide +kernel) (by decide +kernel)
theorem wC_yX1_rankOf : Cond.code yX1_rankOf cX1_rankOf 5 (some .int) ∈ GW := tk2 (i := 158) (by decide +kernel) (by decide +kernel)
theorem wM_RX1_54 : Cond.methodLink RX1 54 yX1_isLower ∈ GW := tk2 (i := 159) (by decide +kernel) (by decide +kernel)
theorem wM_RL_57 : Cond.methodLink RL 57 yL_lowest ∈ GW := tk2 (i := 160) (by decide +kernel) (by decide +kernel)
theorem wSt_yL_lowest : Cond.static yL_lowest ∈ GW := tk2 (i := 161) (by decide +kernel) (by decide +kernel)
theorem wC_yL_lowest : Cond.code yL_lowest cL_lowest 5 (some .int) ∈ GW := tk2 (i := 162) (by decide +kernel) (by decide +kernel)
theorem wM_RL_19 : Cond.methodLink RL 19 yL_counts ∈ GW := tk2 (i := 163) (by decide +kernel) (by decide +kernel)
theorem wSt_yL_counts : Cond.static yL_counts ∈ GW := tk2 (i := 164) (by decide +kernel) (by decide +kernel)
theorem wC_yL_counts : Cond.code yL_counts cL_counts 4 (some .boolean) ∈ GW := tk2 (i := 165) (by decide +kernel) (by decide +kernel)
theorem wM_RL_9 : Cond.methodLink RL 9 yX7_line ∈ GW := tk2 (i := 166) (by decide +kernel) (by decide +kernel)
theorem wIm_yX7_line : Cond.instanceMethod yX7_line ∈ GW := tk2 (i := 167) (by decide +kernel) (by decide +kernel)
theorem wSe_yX7_line : Cond.selects RX7 yX7_line yX7_line ∈ GW := tk2 (i := 168) (by decide +kernel) (by decide +kernel)
theorem wC_yX7_line : Cond.code yX7_line cX7_line 3 (some .int) ∈ GW := tk2 (i := 169) (by decide +kernel) (by decide +kernel)
theorem wM_RX7_83 : Cond.methodLink RX7 83 yX1_has ∈ GW := tk2 (i := 170) (by decide +kernel) (by decide +kernel)
theorem wIm_yX1_has : Cond.instanceMethod yX1_has ∈ GW := tk2 (i := 171) (by decide +kernel) (by decide +kernel)
theorem wSe_yX1_has : Cond.selects RX1 yX1_has yX1_has ∈ GW := tk2 (i := 172) (by decide +kernel) (by decide +kernel)
theorem wC_yX1_has : Cond.code yX1_has cX1_has 2 (some .boolean) ∈ GW := tk2 (i := 173) (by decide +kernel) (by decide +kernel)
theorem wL_RX7_86 : Cond.classLink RX7 86 "java/lang/IndexOutOfBoundsException" ∈ GW := tk2 (i := 174) (by decide +kernel) (by decide +kernel)
theorem wM_RX7_191 : Cond.methodLink RX7 191 yX4_firstMoment ∈ GW := tk2 (i := 191) (by decide +kernel) (by decide +kernel)
theorem wIm_yX4_firstMoment : Cond.instanceMethod yX4_firstMoment ∈ GW := tk2 (i := 192) (by decide +kernel) (by decide +kernel)
theorem wSe_yX4_firstMoment : Cond.selects RX4 yX4_firstMoment yX4_firstMoment ∈ GW := tk2 (i := 193) (by decide +kernel) (by decide +kernel)
theorem wC_yX4_firstMoment : Cond.code yX4_firstMoment cX4_firstMoment 2 (some .int) ∈ GW := tk2 (i := 194) (by decide +kernel) (by decide +kernel)
theorem wM_RX7_105 : Cond.methodLink RX7 105 yX1_property ∈ GW := tk2 (i := 195) (by decide +kernel) (by decide +kernel)
theorem wM_RL_25 : Cond.methodLink RL 25 yL_valueOf ∈ GW := tk2 (i := 196) (by decide +kernel) (by decide +kernel)
theorem wSt_yL_valueOf : Cond.static yL_valueOf ∈ GW := tk2 (i := 197) (by decide +kernel) (by decide +kernel)
theorem wC_yL_valueOf : Cond.code yL_valueOf cL_valueOf 3 (some .int) ∈ GW := tk2 (i := 198) (by decide +kernel) (by decide +kernel)
theorem wM_RL_59 : Cond.methodLink RL 59 yL_value ∈ GW := tk2 (i := 199) (by decide +kernel) (by decide +kernel)
theorem wSt_yL_value : Cond.static yL_value ∈ GW := tk2 (i := 200) (by decide +kernel) (by decide +kernel)
theorem wL_RL_33 : Cond.classLink RL 33 "java/lang/IllegalStateException" ∈ GW := tk2 (i := 202) (by decide +kernel) (by decide +kernel)
theorem wM_RL_45 : Cond.methodLink RL 45 yX7_value ∈ GW := tk2 (i := 203) (by decide +kernel) (by decide +kernel)
theorem wIm_yX7_value : Cond.instanceMethod yX7_value ∈ GW := tk2 (i := 204) (by decide +kernel) (by decide +kernel)
theorem wSe_yX7_value : Cond.selects RX7 yX7_value yX7_value ∈ GW := tk2 (i := 205) (by decide +kernel) (by decide +kernel)
theorem wC_yX7_value : Cond.code yX7_value cX7_value 3 (some .int) ∈ GW := tk2 (i := 206) (by decide +kernel) (by decide +kernel)
theorem wL_RX7_71 : Cond.classLink RX7 71 "java/lang/IllegalStateException" ∈ GW := tk2 (i := 208) (by decide +kernel) (by decide +kernel)
theorem wM_RX7_120 : Cond.methodLink RX7 120 yX1_valueAt ∈ GW := tk2 (i := 224) (by decide +kernel) (by decide +kernel)
theorem wM_RL_62 : Cond.methodLink RL 62 yX7_sum ∈ GW := tk2 (i := 225) (by decide +kernel) (by decide +kernel)
theorem wIm_yX7_sum : Cond.instanceMethod yX7_sum ∈ GW := tk2 (i := 226) (by decide +kernel) (by decide +kernel)
theorem wSe_yX7_sum : Cond.selects RX7 yX7_sum yX7_sum ∈ GW := tk2 (i := 227) (by decide +kernel) (by decide +kernel)
theorem wC_yX7_sum : Cond.code yX7_sum cX7_sum 6 (some .int) ∈ GW := tk2 (i := 228) (by decide +kernel) (by decide +kernel)
theorem wM_RX7_91 : Cond.methodLink RX7 91 yX7_isStretch ∈ GW := tk2 (i := 229) (by decide +kernel) (by decide +kernel)
theorem wSt_yX7_isStretch : Cond.static yX7_isStretch ∈ GW := tk2 (i := 230) (by decide +kernel) (by decide +kernel)
theorem wC_yX7_isStretch : Cond.code yX7_isStretch cX7_isStretch 3 (some .boolean) ∈ GW := tk2 (i := 231) (by decide +kernel) (by decide +kernel)
theorem wM_RL_65 : Cond.methodLink RL 65 yX7_mean ∈ GW := tk2 (i := 233) (by decide +kernel) (by decide +kernel)
theorem wIm_yX7_mean : Cond.instanceMethod yX7_mean ∈ GW := tk2 (i := 234) (by decide +kernel) (by decide +kernel)
theorem wSe_yX7_mean : Cond.selects RX7 yX7_mean yX7_mean ∈ GW := tk2 (i := 235) (by decide +kernel) (by decide +kernel)
theorem wC_yX7_mean : Cond.code yX7_mean cX7_mean 2 (some .double) ∈ GW := tk2 (i := 236) (by decide +kernel) (by decide +kernel)
theorem wM_RX7_267 : Cond.methodLink RX7 267 yX7_sum ∈ GW := tk2 (i := 237) (by decide +kernel) (by decide +kernel)
theorem wM_RL_116 : Cond.methodLink RL 116 yL_lines ∈ GW := tk2 (i := 238) (by decide +kernel) (by decide +kernel)
theorem wSt_yL_lines : Cond.static yL_lines ∈ GW := tk2 (i := 239) (by decide +kernel) (by decide +kernel)
theorem wC_yL_lines : Cond.code yL_lines cL_lines 9 (some .boolean) ∈ GW := tk3 (i := 0) (by decide +kernel) (by decide +kernel)
theorem wM_RL_69 : Cond.methodLink RL 69 yX7_worth ∈ GW := tk3 (i := 1) (by decide +kernel) (by decide +kernel)
theorem wIm_yX7_worth : Cond.instanceMethod yX7_worth ∈ GW := tk3 (i := 2) (by decide +kernel) (by decide +kernel)
theorem wSe_yX7_worth : Cond.selects RX7 yX7_worth yX7_worth ∈ GW := tk3 (i := 3) (by decide +kernel) (by decide +kernel)
theorem wC_yX7_worth : Cond.code yX7_worth cX7_worth 5 (some .int) ∈ GW := tk3 (i := 4) (by decide +kernel) (by decide +kernel)
theorem wM_RL_72 : Cond.methodLink RL 72 yX7_node ∈ GW := tk3 (i := 5) (by decide +kernel) (by decide +kernel)
theorem wIm_yX7_node : Cond.instanceMethod yX7_node ∈ GW := tk3 (i := 6) (by decide +kernel) (by decide +kernel)
theorem wSe_yX7_node : Cond.selects RX7 yX7_node yX7_node ∈ GW := tk3 (i := 7) (by decide +kernel) (by decide +kernel)
theorem wC_yX7_node : Cond.code yX7_node cX7_node 3 (some .int) ∈ GW := tk3 (i := 8) (by decide +kernel) (by decide +kernel)
theorem wM_RX7_217 : Cond.methodLink RX7 217 yX6_lineOf ∈ GW := tk3 (i := 10) (by decide +kernel) (by decide +kernel)
theorem wIm_yX6_lineOf : Cond.instanceMethod yX6_lineOf ∈ GW := tk3 (i := 11) (by decide +kernel) (by decide +kernel)
theorem wSe_yX6_lineOf : Cond.selects RX6 yX6_lineOf yX6_lineOf ∈ GW := tk3 (i := 12) (by decide +kernel) (by decide +kernel)
theorem wC_yX6_lineOf : Cond.code yX6_lineOf cX6_lineOf 2 (some .int) ∈ GW := tk3 (i := 13) (by decide +kernel) (by decide +kernel)
theorem wM_RX6_32 : Cond.methodLink RX6 32 yX6_has ∈ GW := tk3 (i := 14) (by decide +kernel) (by decide +kernel)
theorem wSt_yX6_has : Cond.static yX6_has ∈ GW := tk3 (i := 15) (by decide +kernel) (by decide +kernel)
theorem wC_yX6_has : Cond.code yX6_has cX6_has 1 (some .boolean) ∈ GW := tk3 (i := 16) (by decide +kernel) (by decide +kernel)
theorem wM_RX7_220 : Cond.methodLink RX7 220 yX6_firstPlace ∈ GW := tk3 (i := 17) (by decide +kernel) (by decide +kernel)
theorem wIm_yX6_firstPlace : Cond.instanceMethod yX6_firstPlace ∈ GW := tk3 (i := 18) (by decide +kernel) (by decide +kernel)
theorem wSe_yX6_firstPlace : Cond.selects RX6 yX6_firstPlace yX6_firstPlace ∈ GW := tk3 (i := 19) (by decide +kernel) (by decide +kernel)
theorem wC_yX6_firstPlace : Cond.code yX6_firstPlace cX6_firstPlace 2 (some .int) ∈ GW := tk3 (i := 20) (by decide +kernel) (by decide +kernel)
theorem wM_RX7_223 : Cond.methodLink RX7 223 yX6_lastPlace ∈ GW := tk3 (i := 21) (by decide +kernel) (by decide +kernel)
theorem wIm_yX6_lastPlace : Cond.instanceMethod yX6_lastPlace ∈ GW := tk3 (i := 22) (by decide +kernel) (by decide +kernel)
theorem wSe_yX6_lastPlace : Cond.selects RX6 yX6_lastPlace yX6_lastPlace ∈ GW := tk3 (i := 23) (by decide +kernel) (by decide +kernel)
theorem wC_yX6_lastPlace : Cond.code yX6_lastPlace cX6_lastPlace 2 (some .int) ∈ GW := tk3 (i := 24) (by decide +kernel) (by decide +kernel)
theorem wM_RX7_226 : Cond.methodLink RX7 226 yX6_middle ∈ GW := tk3 (i := 25) (by decide +kernel) (by decide +kernel)
theorem wIm_yX6_middle : Cond.instanceMethod yX6_middle ∈ GW := tk3 (i := 26) (by decide +kernel) (by decide +kernel)
theorem wSe_yX6_middle : Cond.selects RX6 yX6_middle yX6_middle ∈ GW := tk3 (i := 27) (by decide +kernel) (by decide +kernel)
theorem wC_yX6_middle : Cond.code yX6_middle cX6_middle 2 (some .int) ∈ GW := tk3 (i := 28) (by decide +kernel) (by decide +kernel)
theorem wM_RX7_229 : Cond.methodLink RX7 229 yX6_stepsAt ∈ GW := tk3 (i := 29) (by decide +kernel) (by decide +kernel)
theorem wIm_yX6_stepsAt : Cond.instanceMethod yX6_stepsAt ∈ GW := tk3 (i := 30) (by decide +kernel) (by decide +kernel)
theorem wSe_yX6_stepsAt : Cond.selects RX6 yX6_stepsAt yX6_stepsAt ∈ GW := tk3 (i := 31) (by decide +kernel) (by decide +kernel)
theorem wC_yX6_stepsAt : Cond.code yX6_stepsAt cX6_stepsAt 2 (some .int) ∈ GW := tk3 (i := 32) (by decide +kernel) (by decide +kernel)
theorem wM_RL_108 : Cond.methodLink RL 108 yL_act ∈ GW := tk3 (i := 33) (by decide +kernel) (by decide +kernel)
theorem wSt_yL_act : Cond.static yL_act ∈ GW := tk3 (i := 34) (by decide +kernel) (by decide +kernel)
theorem wC_yL_act : Cond.code yL_act cL_act 7 (some .int) ∈ GW := tk3 (i := 35) (by decide +kernel) (by decide +kernel)
theorem wM_RL_75 : Cond.methodLink RL 75 yL_cell ∈ GW := tk3 (i := 36) (by decide +kernel) (by decide +kernel)
theorem wSt_yL_cell : Cond.static yL_cell ∈ GW := tk3 (i := 37) (by decide +kernel) (by decide +kernel)
theorem wC_yL_cell : Cond.code yL_cell cL_cell 2 (some .int) ∈ GW := tk3 (i := 38) (by decide +kernel) (by decide +kernel)
theorem wK_RL_8 : Cond.constant RL 8 (40503) ∈ GW := tk3 (i := 39) (by decide +kernel) (by decide +kernel)
theorem wM_RL_79 : Cond.methodLink RL 79 yL_low ∈ GW := tk3 (i := 40) (by decide +kernel) (by decide +kernel)
theorem wSt_yL_low : Cond.static yL_low ∈ GW := tk3 (i := 41) (by decide +kernel) (by decide +kernel)
theorem wC_yL_low : Cond.code yL_low cL_low 2 (some .int) ∈ GW := tk3 (i := 42) (by decide +kernel) (by decide +kernel)
theorem wK_RL_7 : Cond.constant RL 7 (2147483647) ∈ GW := tk3 (i := 43) (by decide +kernel) (by decide +kernel)
theorem wM_RL_82 : Cond.methodLink RL 82 yL_add ∈ GW := tk3 (i := 44) (by decide +kernel) (by decide +kernel)
theorem wSt_yL_add : Cond.static yL_add ∈ GW := tk3 (i := 45) (by decide +kernel) (by decide +kernel)
theorem wM_RL_38 : Cond.methodLink RL 38 yX7_add ∈ GW := tk3 (i := 47) (by decide +kernel) (by decide +kernel)
theorem wIm_yX7_add : Cond.instanceMethod yX7_add ∈ GW := tk3 (i := 48) (by decide +kernel) (by decide +kernel)
theorem wSe_yX7_add : Cond.selects RX7 yX7_add yX7_add ∈ GW := tk3 (i := 49) (by decide +kernel) (by decide +kernel)
theorem wC_yX7_add : Cond.code yX7_add cX7_add 3 (some .int) ∈ GW := tk3 (i := 50) (by decide +kernel) (by decide +kernel)
theorem wM_RX7_53 : Cond.methodLink RX7 53 yX7_isSlope ∈ GW := tk3 (i := 51) (by decide +kernel) (by decide +kernel)
theorem wSt_yX7_isSlope : Cond.static yX7_isSlope ∈ GW := tk3 (i := 52) (by decide +kernel) (by decide +kernel)
theorem wC_yX7_isSlope : Cond.code yX7_isSlope cX7_isSlope 1 (some .boolean) ∈ GW := tk3 (i := 53) (by decide +kernel) (by decide +kernel)
theorem wM_RX7_57 : Cond.methodLink RX7 57 yX7_isOffset ∈ GW := tk3 (i := 54) (by decide +kernel) (by decide +kernel)
theorem wSt_yX7_isOffset : Cond.static yX7_isOffset ∈ GW := tk3 (i := 55) (by decide +kernel) (by decide +kernel)
theorem wC_yX7_isOffset : Cond.code yX7_isOffset cX7_isOffset 1 (some .boolean) ∈ GW := tk3 (i := 56) (by decide +kernel) (by decide +kernel)
theorem wM_RX7_76 : Cond.methodLink RX7 76 yX0_save ∈ GW := tk3 (i := 59) (by decide +kernel) (by decide +kernel)
theorem wIm_yX0_save : Cond.instanceMethod yX0_save ∈ GW := tk3 (i := 60) (by decide +kernel) (by decide +kernel)
theorem wSe_yX0_save : Cond.selects RX0 yX0_save yX0_save ∈ GW := tk3 (i := 61) (by decide +kernel) (by decide +kernel)
theorem wC_yX0_save : Cond.code yX0_save cX0_save 2 none ∈ GW := tk3 (i := 62) (by decide +kernel) (by decide +kernel)
theorem wM_RX0_21 : Cond.methodLink RX0 21 arraycopyName ∈ GW := tk3 (i := 63) (by decide +kernel) (by decide +kernel)
theorem wSt_arraycopyName : Cond.static arraycopyName ∈ GW := tk3 (i := 64) (by decide +kernel) (by decide +kernel)
theorem wNa_arraycopyName : Cond.native arraycopyName ∈ GW := tk3 (i := 65) (by decide +kernel) (by decide +kernel)
theorem wM_RX0_27 : Cond.methodLink RX0 27 yX1_saveTo ∈ GW := tk3 (i := 66) (by decide +kernel) (by decide +kernel)
theorem wIm_yX1_saveTo : Cond.instanceMethod yX1_saveTo ∈ GW := tk3 (i := 67) (by decide +kernel) (by decide +kernel)
theorem wSe_yX1_saveTo : Cond.selects RX1 yX1_saveTo yX1_saveTo ∈ GW := tk3 (i := 68) (by decide +kernel) (by decide +kernel)
theorem wC_yX1_saveTo : Cond.code yX1_saveTo cX1_saveTo 3 none ∈ GW := tk3 (i := 69) (by decide +kernel) (by decide +kernel)
theorem wM_RX1_33 : Cond.methodLink RX1 33 arraycopyName ∈ GW := tk3 (i := 70) (by decide +kernel) (by decide +kernel)
theorem wM_RX7_79 : Cond.methodLink RX7 79 yX1_addLine ∈ GW := tk3 (i := 71) (by decide +kernel) (by decide +kernel)
theorem wIm_yX1_addLine : Cond.instanceMethod yX1_addLine ∈ GW := tk3 (i := 72) (by decide +kernel) (by decide +kernel)
theorem wSe_yX1_addLine : Cond.selects RX1 yX1_addLine yX1_addLine ∈ GW := tk3 (i := 73) (by decide +kernel) (by decide +kernel)
theorem wC_yX1_addLine : Cond.code yX1_addLine cX1_addLine 6 none ∈ GW := tk3 (i := 74) (by decide +kernel) (by decide +kernel)
theorem wM_RX1_29 : Cond.methodLink RX1 29 yX1_change ∈ GW := tk3 (i := 75) (by decide +kernel) (by decide +kernel)
theorem wIm_yX1_change : Cond.instanceMethod yX1_change ∈ GW := tk3 (i := 76) (by decide +kernel) (by decide +kernel)
theorem wSe_yX1_change : Cond.selects RX1 yX1_change yX1_change ∈ GW := tk3 (i := 77) (by decide +kernel) (by decide +kernel)
theorem wC_yX1_change : Cond.code yX1_change cX1_change 4 none ∈ GW := tk3 (i := 78) (by decide +kernel) (by decide +kernel)
theorem wM_RX1_25 : Cond.methodLink RX1 25 yX1_has ∈ GW := tk3 (i := 79) (by decide +kernel) (by decide +kernel)
theorem wM_RL_84 : Cond.methodLink RL 84 yX7_span ∈ GW := tk3 (i := 80) (by decide +kernel) (by decide +kernel)
theorem wIm_yX7_span : Cond.instanceMethod yX7_span ∈ GW := tk3 (i := 81) (by decide +kernel) (by decide +kernel)
theorem wSe_yX7_span : Cond.selects RX7 yX7_span yX7_span ∈ GW := tk3 (i := 82) (by decide +kernel) (by decide +kernel)
theorem wC_yX7_span : Cond.code yX7_span cX7_span 4 (some .int) ∈ GW := tk3 (i := 83) (by decide +kernel) (by decide +kernel)
theorem wM_RX7_97 : Cond.methodLink RX7 97 yX7_changeStretch ∈ GW := tk3 (i := 84) (by decide +kernel) (by decide +kernel)
theorem wIm_yX7_changeStretch : Cond.instanceMethod yX7_changeStretch ∈ GW := tk3 (i := 86) (by decide +kernel) (by decide +kernel)
theorem wC_yX7_changeStretch : Cond.code yX7_changeStretch cX7_changeStretch 7 (some .int) ∈ GW := tk3 (i := 87) (by decide +kernel) (by decide +kernel)
theorem wM_RX7_111 : Cond.methodLink RX7 111 yX1_change ∈ GW := tk3 (i := 88) (by decide +kernel) (by decide +kernel)
theorem wM_RL_87 : Cond.methodLink RL 87 yX7_live ∈ GW := tk3 (i := 89) (by decide +kernel) (by decide +kernel)
theorem wIm_yX7_live : Cond.instanceMethod yX7_live ∈ GW := tk3 (i := 90) (by decide +kernel) (by decide +kernel)
theorem wSe_yX7_live : Cond.selects RX7 yX7_live yX7_live ∈ GW := tk3 (i := 91) (by decide +kernel) (by decide +kernel)
theorem wC_yX7_live : Cond.code yX7_live cX7_live 4 (some .int) ∈ GW := tk3 (i := 92) (by decide +kernel) (by decide +kernel)
theorem wM_RL_90 : Cond.methodLink RL 90 yL_lift ∈ GW := tk3 (i := 94) (by decide +kernel) (by decide +kernel)
theorem wSt_yL_lift : Cond.static yL_lift ∈ GW := tk3 (i := 95) (by decide +kernel) (by decide +kernel)
theorem wM_RL_35 : Cond.methodLink RL 35 yX7_lift ∈ GW := tk3 (i := 97) (by decide +kernel) (by decide +kernel)
theorem wIm_yX7_lift : Cond.instanceMethod yX7_lift ∈ GW := tk3 (i := 98) (by decide +kernel) (by decide +kernel)
theorem wSe_yX7_lift : Cond.selects RX7 yX7_lift yX7_lift ∈ GW := tk3 (i := 99) (by decide +kernel) (by decide +kernel)
theorem wC_yX7_lift : Cond.code yX7_lift cX7_lift 4 (some .int) ∈ GW := tk3 (i := 100) (by decide +kernel) (by decide +kernel)
theorem wM_RL_92 : Cond.methodLink RL 92 yL_turn ∈ GW := tk3 (i := 103) (by decide +kernel) (by decide +kernel)
theorem wSt_yL_turn : Cond.static yL_turn ∈ GW := tk3 (i := 104) (by decide +kernel) (by decide +kernel)
theorem wM_RL_29 : Cond.methodLink RL 29 yX7_turn ∈ GW := tk3 (i := 106) (by decide +kernel) (by decide +kernel)
theorem wIm_yX7_turn : Cond.instanceMethod yX7_turn ∈ GW := tk3 (i := 107) (by decide +kernel) (by decide +kernel)
theorem wSe_yX7_turn : Cond.selects RX7 yX7_turn yX7_turn ∈ GW := tk3 (i := 108) (by decide +kernel) (by decide +kernel)
theorem wC_yX7_turn : Cond.code yX7_turn cX7_turn 5 (some .int) ∈ GW := tk3 (i := 109) (by decide +kernel) (by decide +kernel)
theorem wM_RL_95 : Cond.methodLink RL 95 yX7_go ∈ GW := tk3 (i := 111) (by decide +kernel) (by decide +kernel)
theorem wIm_yX7_go : Cond.instanceMethod yX7_go ∈ GW := tk3 (i := 112) (by decide +kernel) (by decide +kernel)
theorem wSe_yX7_go : Cond.selects RX7 yX7_go yX7_go ∈ GW := tk3 (i := 113) (by decide +kernel) (by decide +kernel)
theorem wC_yX7_go : Cond.code yX7_go cX7_go 3 (some .int) ∈ GW := tk3 (i := 114) (by decide +kernel) (by decide +kernel)
theorem wM_RX7_144 : Cond.methodLink RX7 144 yX1_moveTo ∈ GW := tk3 (i := 116) (by decide +kernel) (by decide +kernel)
theorem wIm_yX1_moveTo : Cond.instanceMethod yX1_moveTo ∈ GW := tk3 (i := 117) (by decide +kernel) (by decide +kernel)
theorem wSe_yX1_moveTo : Cond.selects RX1 yX1_moveTo yX1_moveTo ∈ GW := tk3 (i := 118) (by decide +kernel) (by decide +kernel)
theorem wC_yX1_moveTo : Cond.code yX1_moveTo cX1_moveTo 2 none ∈ GW := tk3 (i := 119) (by decide +kernel) (by decide +kernel)
theorem wM_RL_98 : Cond.methodLink RL 98 yX7_remove ∈ GW := tk3 (i := 120) (by decide +kernel) (by decide +kernel)
theorem wIm_yX7_remove : Cond.instanceMethod yX7_remove ∈ GW := tk3 (i := 121) (by decide +kernel) (by decide +kernel)
theorem wSe_yX7_remove : Cond.selects RX7 yX7_remove yX7_remove ∈ GW := tk3 (i := 122) (by decide +kernel) (by decide +kernel)
theorem wC_yX7_remove : Cond.code yX7_remove cX7_remove 2 (some .int) ∈ GW := tk3 (i := 123) (by decide +kernel) (by decide +kernel)
theorem wM_RX7_123 : Cond.methodLink RX7 123 yX1_drop ∈ GW := tk3 (i := 124) (by decide +kernel) (by decide +kernel)
theorem wIm_yX1_drop : Cond.instanceMethod yX1_drop ∈ GW := tk3 (i := 125) (by decide +kernel) (by decide +kernel)
theorem wSe_yX1_drop : Cond.selects RX1 yX1_drop yX1_drop ∈ GW := tk3 (i := 126) (by decide +kernel) (by decide +kernel)
theorem wC_yX1_drop : Cond.code yX1_drop cX1_drop 3 none ∈ GW := tk3 (i := 127) (by decide +kernel) (by decide +kernel)
theorem wM_RL_101 : Cond.methodLink RL 101 yL_undo ∈ GW := tk3 (i := 128) (by decide +kernel) (by decide +kernel)
theorem wSt_yL_undo : Cond.static yL_undo ∈ GW := tk3 (i := 129) (by decide +kernel) (by decide +kernel)
theorem wM_RL_41 : Cond.methodLink RL 41 yX7_undo ∈ GW := tk3 (i := 131) (by decide +kernel) (by decide +kernel)
theorem wIm_yX7_undo : Cond.instanceMethod yX7_undo ∈ GW := tk3 (i := 132) (by decide +kernel) (by decide +kernel)
theorem wSe_yX7_undo : Cond.selects RX7 yX7_undo yX7_undo ∈ GW := tk3 (i := 133) (by decide +kernel) (by decide +kernel)
theorem wC_yX7_undo : Cond.code yX7_undo cX7_undo 1 (some .int) ∈ GW := tk3 (i := 134) (by decide +kernel) (by decide +kernel)
theorem wM_RX7_180 : Cond.methodLink RX7 180 yX0_restore ∈ GW := tk3 (i := 136) (by decide +kernel) (by decide +kernel)
theorem wIm_yX0_restore : Cond.instanceMethod yX0_restore ∈ GW := tk3 (i := 137) (by decide +kernel) (by decide +kernel)
theorem wSe_yX0_restore : Cond.selects RX0 yX0_restore yX0_restore ∈ GW := tk3 (i := 138) (by decide +kernel) (by decide +kernel)
theorem wC_yX0_restore : Cond.code yX0_restore cX0_restore 2 none ∈ GW := tk3 (i := 139) (by decide +kernel) (by decide +kernel)
theorem wM_RX0_31 : Cond.methodLink RX0 31 yX1_restoreFrom ∈ GW := tk3 (i := 140) (by decide +kernel) (by decide +kernel)
theorem wIm_yX1_restoreFrom : Cond.instanceMethod yX1_restoreFrom ∈ GW := tk3 (i := 141) (by decide +kernel) (by decide +kernel)
theorem wSe_yX1_restoreFrom : Cond.selects RX1 yX1_restoreFrom yX1_restoreFrom ∈ GW := tk3 (i := 142) (by decide +kernel) (by decide +kernel)
theorem wC_yX1_restoreFrom : Cond.code yX1_restoreFrom cX1_restoreFrom 3 none ∈ GW := tk3 (i := 143) (by decide +kernel) (by decide +kernel)
theorem wM_RL_104 : Cond.methodLink RL 104 yX7_prune ∈ GW := tk3 (i := 144) (by decide +kernel) (by decide +kernel)
theorem wIm_yX7_prune : Cond.instanceMethod yX7_prune ∈ GW := tk3 (i := 145) (by decide +kernel) (by decide +kernel)
theorem wSe_yX7_prune : Cond.selects RX7 yX7_prune yX7_prune ∈ GW := tk3 (i := 146) (by decide +kernel) (by decide +kernel)
theorem wC_yX7_prune : Cond.code yX7_prune cX7_prune 3 (some .int) ∈ GW := tk3 (i := 147) (by decide +kernel) (by decide +kernel)
theorem wSe_yX2_renew : Cond.selects RX2 yX2_renew yX2_renew ∈ GW := tk0 (y := yX2_renew) (i := 0) (n := 5) (by decide +kernel) (by decide +kernel)
theorem wSe_yX6_renew : Cond.selects RX6 yX6_renew yX6_renew ∈ GW := tk0 (y := yX6_renew) (i := 1) (n := 6) (by decide +kernel) (by decide +kernel)
theorem wSe_yX6_put : Cond.selects RX6 yX6_put yX6_put ∈ GW := tk0 (y := yX6_put) (i := 2) (n := 6) (by decide +kernel) (by decide +kernel)
theorem wSe_yX4_renew : Cond.selects RX4 yX4_renew yX4_renew ∈ GW := tk0 (y := yX4_renew) (i := 3) (n := 3) (by decide +kernel) (by decide +kernel)
theorem wSe_yX4_note : Cond.selects RX4 yX4_note yX4_note ∈ GW := tk0 (y := yX4_note) (i := 4) (n := 3) (by decide +kernel) (by decide +kernel)
theorem wSe_yX7_changeStretch : Cond.selects RX7 yX7_changeStretch yX7_changeStretch ∈ GW := tk0 (y := yX7_changeStretch) (i := 6) (n := 6) (by decide +kernel) (by decide +kernel)
theorem inlX0 : ∀ w ∈ u_ws RX0 TX0 2, w ∈ GW := gw_r _ [61, 63] (by decide +kernel) (by decide +kernel)
theorem inlX1 : ∀ w ∈ u_ws RX1 TX1 4, w ∈ GW := gw_r _ [43, 45, 47, 49] (by decide +kernel) (by decide +kernel)
theorem inlX2 : ∀ w ∈ u_ws RX2 TX2 5, w ∈ GW := gw_r _ [118, 120, 122, 124, 126] (by decide +kernel) (by decide +kernel)
theorem inlX3 : ∀ w ∈ u_ws RX3 TX3 6, w ∈ GW := gw_r _ [84, 86, 88, 90, 92, 94] (by decide +kernel) (by decide +kernel)
theorem inlX4 : ∀ w ∈ u_ws RX4 TX4 3, w ∈ GW := gw_r _ [163, 165, 167] (by decide +kernel) (by decide +kernel)
theorem inlX5 : ∀ w ∈ u_ws RX5 TX5 3, w ∈ GW := gw_r _ [100, 102, 104] (by decide +kernel) (by decide +kernel)
theorem inlX6 : ∀ w ∈ u_ws RX6 TX6 6, w ∈ GW := gw_r _ [141, 143, 145, 147, 149, 151] (by decide +kernel) (by decide +kernel)
theorem inlX7 : ∀ w ∈ u_ws RX7 TX7 6, w ∈ GW := gw_r _ [176, 178, 180, 182, 184, 186] (by decide +kernel) (by decide +kernel)
end
section
/-! V: the kit's W with its fixed facts in one hypothesis (FX), the world one list w, the locals a list lv -/
abbrev GT : Type := va_G × ClassId × ClassId × ClassId
abbrev TYS (G : GT) : List (ClassId × FieldType) := [(G.2.1, .int)]
/-- the fixed facts of a walk: the machine, the code, its size of locals, the words, the free cells, the tables, how much room -/
def FX (p : Program) (R : Room) (s : State) (m : MethodId) (args : Array Value) (c : Code) (cc : ByteArray) (own : String) (nL d : Nat) (G : GT) (A : Nat → Prop) : Prop :=
  p.tables.exec = Jvm.exec ∧ c.code = cc ∧ c.maxLocals = nL ∧ s.vm.findClass own = some m.cls ∧ (∀ w ∈ GW, w.before args s = true) ∧ (∀ q, s.heap.size ≤ q → A q) ∧ va_K G.1 vwCl (TYS G) s ∧ d ≤ R.frames ∧ 32 * d ≤ R.locals
/-- the room of level d: no cells; one exception -/
abbrev RM (d : Nat) : Room := { frames := d, cells := 0, slots := 0, locals := 32 * d }
abbrev RX (d : Nat) : Room := { frames := d, cells := 1, slots := 6, locals := 32 * d }
def V (p : Program) (l : Launch) (e : Env) (R : Room) (s : State) (m : MethodId) (args : Array Value) (below : List Frame) (meth : Method) (c : Code) (nL : Nat) (G : GT) (A : Nat → Prop) (Q : State → Prop) (w : va_W) (kc ks pc : Nat) (lv : List (Nat × Value)) (st : List Value) : Prop :=
  ∀ (H : Heap) (locs : List Loc) (ls : Array Slot), va_P G.1 vwCl w H → va_D A w → va_S A s.heap H locs → lv_has ls nL lv → W p l e R s m args below meth c H locs kc ks Q (F0 m pc ls st)
def lget : List (Nat × Value) → Nat → Option Value
  | [], _ => none
  | q :: l, i => if q.1 = i then some q.2 else lget l i
theorem lget_at {ls : Array Slot} {nL : Nat} {lv : List (Nat × Value)} {i : Nat} {v : Value} (h : lv_has ls nL lv) (hg : lget lv i = some v) : ls[i]? = some (.val v) := by
  refine h.2.2 (i, v) ?_
  clear h
  induction lv with
  | nil => cases hg
  | cons q l ih =>
    unfold lget at hg
    split at hg
    · rename_i he
      cases hg
      exact List.mem_cons.mpr (Or.inl (by rw [← he]))
    · exact List.mem_cons_of_mem _ (ih hg)
section VROWS
variable {p : Program} {l : Launch} {e : Env} {R : Room} {s : State} {m : MethodId} {args : Array Value} {below : List Frame} {meth : Method} {c : Code} {cc : ByteArray} {own : String} {nL d : Nat} {G : GT} {A : Nat → Prop} {Q : State → Prop} {w : va_W} {kc ks pc : Nat} {lv : List (Nat × Value)} {st : List Value}
theorem v_iconst (F : FX p R s m args c cc own nL d G A) {n : Int} {v : Int32} (hd : decode cc pc = .ok (.iconst n, 1)) (hv : Int32.ofInt n = v) (k : V p l e R s m args below meth c nL G A Q w kc ks (pc + 1) lv (.int v :: st)) : V p l e R s m args below meth c nL G A Q w kc ks pc lv st := fun H locs ls hP hD hS hl => lv_iconst F.1 F.2.1 hd hv (k H locs ls hP hD hS hl)
theorem v_bipush (F : FX p R s m args c cc own nL d G A) {n : Int} {v : Int32} (hd : decode cc pc = .ok (.bipush n, 2)) (hv : (Int8.ofInt n).toInt32 = v) (k : V p l e R s m args below meth c nL G A Q w kc ks (pc + 2) lv (.int v :: st)) : V p l e R s m args below meth c nL G A Q w kc ks pc lv st := fun H locs ls hP hD hS hl => lv_bipush F.1 F.2.1 hd hv (k H locs ls hP hD hS hl)
theorem v_sipush (F : FX p R s m args c cc own nL d G A) {n : Int} {v : Int32} (hd : decode cc pc = .ok (.sipush n, 3)) (hv : (Int16.ofInt n).toInt32 = v) (k : V p l e R s m args below meth c nL G A Q w kc ks (pc + 3) lv (.int v :: st)) : V p l e R s m args below meth c nL G A Q w kc ks pc lv st := fun H locs ls hP hD hS hl => lv_sipush F.1 F.2.1 hd hv (k H locs ls hP hD hS hl)
theorem v_lconst (F : FX p R s m args c cc own nL d G A) {n : Fin 2} {v : Int64} (hd : decode cc pc = .ok (.lconst n, 1)) (hv : Int64.ofNat (n : Nat) = v) (k : V p l e R s m args below meth c nL G A Q w kc ks (pc + 1) lv (.long v :: st)) : V p l e R s m args below meth c nL G A Q w kc ks pc lv st := fun H locs ls hP hD hS hl => lv_lconst F.1 F.2.1 hd hv (k H locs ls hP hD hS hl)
theorem v_dconst0 (F : FX p R s m args c cc own nL d G A)  (hd : decode cc pc = .ok (.dconst 0, 1))  (k : V p l e R s m args below meth c nL G A Q w kc ks (pc + 1) lv (.double FP.dconst0 :: st)) : V p l e R s m args below meth c nL G A Q w kc ks pc lv st := fun H locs ls hP hD hS hl => lv_dconst0 F.1 F.2.1 hd  (k H locs ls hP hD hS hl)
theorem v_dconst1 (F : FX p R s m args c cc own nL d G A)  (hd : decode cc pc = .ok (.dconst 1, 1))  (k : V p l e R s m args below meth c nL G A Q w kc ks (pc + 1) lv (.double FP.dconst1 :: st)) : V p l e R s m args below meth c nL G A Q w kc ks pc lv st := fun H locs ls hP hD hS hl => lv_dconst1 F.1 F.2.1 hd  (k H locs ls hP hD hS hl)
theorem v_iload (F : FX p R s m args c cc own nL d G A) {i : Nat} {x : Int32} (hd : decode cc pc = .ok (.iload i, 2)) (hg : lget lv i = some (.int x)) (k : V p l e R s m args below meth c nL G A Q w kc ks (pc + 2) lv (.int x :: st)) : V p l e R s m args below meth c nL G A Q w kc ks pc lv st := fun H locs ls hP hD hS hl => lv_iload F.1 F.2.1 hd (lget_at hl hg) (k H locs ls hP hD hS hl)
theorem v_iload_n (F : FX p R s m args c cc own nL d G A) {n : Fin 4} {x : Int32} (hd : decode cc pc = .ok (.iload_n n, 1)) (i : Nat) (hi : (n : Nat) = i) (hg : lget lv i = some (.int x)) (k : V p l e R s m args below meth c nL G A Q w kc ks (pc + 1) lv (.int x :: st)) : V p l e R s m args below meth c nL G A Q w kc ks pc lv st := fun H locs ls hP hD hS hl => lv_iload_n F.1 F.2.1 hd hi (lget_at hl hg) (k H locs ls hP hD hS hl)
theorem v_istore (F : FX p R s m args c cc own nL d G A) {i : Nat} {x : Int32} (hd : decode cc pc = .ok (.istore i, 2)) {lv' : List (Nat × Value)} (hn : i < nL) (hl' : (i, Value.int x) :: lv.filter (fun q => !(q.1 == i) && !(q.1 + 1 == i && q.2.category == 2)) = lv') (k : V p l e R s m args below meth c nL G A Q w kc ks (pc + 2) lv' st) : V p l e R s m args below meth c nL G A Q w kc ks pc lv (.int x :: st) := fun H locs ls hP hD hS hl => lv_istore F.1 F.2.1 hd hl hn hl' (fun ls' h => k H locs ls' hP hD hS h)
theorem v_istore_n (F : FX p R s m args c cc own nL d G A) {n : Fin 4} {x : Int32} (hd : decode cc pc = .ok (.istore_n n, 1)) (i : Nat) (hi : (n : Nat) = i) {lv' : List (Nat × Value)} (hn : i < nL) (hl' : (i, Value.int x) :: lv.filter (fun q => !(q.1 == i) && !(q.1 + 1 == i && q.2.category == 2)) = lv') (k : V p l e R s m args below meth c nL G A Q w kc ks (pc + 1) lv' st) : V p l e R s m args below meth c nL G A Q w kc ks pc lv (.int x :: st) := fun H locs ls hP hD hS hl => lv_istore_n F.1 F.2.1 hd hi hl hn hl' (fun ls' h => k H locs ls' hP hD hS h)
theorem v_lload (F : FX p R s m args c cc own nL d G A) {i : Nat} {x : Int64} (hd : decode cc pc = .ok (.lload i, 2)) (hg : lget lv i = some (.long x)) (k : V p l e R s m args below meth c nL G A Q w kc ks (pc + 2) lv (.long x :: st)) : V p l e R s m args below meth c nL G A Q w kc ks pc lv st := fun H locs ls hP hD hS hl => lv_lload F.1 F.2.1 hd (lget_at hl hg) (k H locs ls hP hD hS hl)
theorem v_lload_n (F : FX p R s m args c cc own nL d G A) {n : Fin 4} {x : Int64} (hd : decode cc pc = .ok (.lload_n n, 1)) (i : Nat) (hi : (n : Nat) = i) (hg : lget lv i = some (.long x)) (k : V p l e R s m args below meth c nL G A Q w kc ks (pc + 1) lv (.long x :: st)) : V p l e R s m args below meth c nL G A Q w kc ks pc lv st := fun H locs ls hP hD hS hl => lv_lload_n F.1 F.2.1 hd hi (lget_at hl hg) (k H locs ls hP hD hS hl)
theorem v_lstore (F : FX p R s m args c cc own nL d G A) {i : Nat} {x : Int64} (hd : decode cc pc = .ok (.lstore i, 2)) {lv' : List (Nat × Value)} (hn : i + 1 < nL) (hl' : (i, Value.long x) :: lv.filter (fun q => !(q.1 == i) && (!(q.1 == i + 1) && !(q.1 + 1 == i && q.2.category == 2))) = lv') (k : V p l e R s m args below meth c nL G A Q w kc ks (pc + 2) lv' st) : V p l e R s m args below meth c nL G A Q w kc ks pc lv (.long x :: st) := fun H locs ls hP hD hS hl => lv_lstore F.1 F.2.1 hd hl hn hl' (fun ls' h => k H locs ls' hP hD hS h)
theorem v_lstore_n (F : FX p R s m args c cc own nL d G A) {n : Fin 4} {x : Int64} (hd : decode cc pc = .ok (.lstore_n n, 1)) (i : Nat) (hi : (n : Nat) = i) {lv' : List (Nat × Value)} (hn : i + 1 < nL) (hl' : (i, Value.long x) :: lv.filter (fun q => !(q.1 == i) && (!(q.1 == i + 1) && !(q.1 + 1 == i && q.2.category == 2))) = lv') (k : V p l e R s m args below meth c nL G A Q w kc ks (pc + 1) lv' st) : V p l e R s m args below meth c nL G A Q w kc ks pc lv (.long x :: st) := fun H locs ls hP hD hS hl => lv_lstore_n F.1 F.2.1 hd hi hl hn hl' (fun ls' h => k H locs ls' hP hD hS h)
theorem v_aload (F : FX p R s m args c cc own nL d G A) {i : Nat} {x : Nat} (hd : decode cc pc = .ok (.aload i, 2)) (hg : lget lv i = some (.ref x)) (k : V p l e R s m args below meth c nL G A Q w kc ks (pc + 2) lv (.ref x :: st)) : V p l e R s m args below meth c nL G A Q w kc ks pc lv st := fun H locs ls hP hD hS hl => lv_aload F.1 F.2.1 hd (lget_at hl hg) (k H locs ls hP hD hS hl)
theorem v_aload_n (F : FX p R s m args c cc own nL d G A) {n : Fin 4} {x : Nat} (hd : decode cc pc = .ok (.aload_n n, 1)) (i : Nat) (hi : (n : Nat) = i) (hg : lget lv i = some (.ref x)) (k : V p l e R s m args below meth c nL G A Q w kc ks (pc + 1) lv (.ref x :: st)) : V p l e R s m args below meth c nL G A Q w kc ks pc lv st := fun H locs ls hP hD hS hl => lv_aload_n F.1 F.2.1 hd hi (lget_at hl hg) (k H locs ls hP hD hS hl)
theorem v_astore (F : FX p R s m args c cc own nL d G A) {i : Nat} {x : Nat} (hd : decode cc pc = .ok (.astore i, 2)) {lv' : List (Nat × Value)} (hn : i < nL) (hl' : (i, Value.ref x) :: lv.filter (fun q => !(q.1 == i) && !(q.1 + 1 == i && q.2.category == 2)) = lv') (k : V p l e R s m args below meth c nL G A Q w kc ks (pc + 2) lv' st) : V p l e R s m args below meth c nL G A Q w kc ks pc lv (.ref x :: st) := fun H locs ls hP hD hS hl => lv_astore F.1 F.2.1 hd hl hn hl' (fun ls' h => k H locs ls' hP hD hS h)
theorem v_astore_n (F : FX p R s m args c cc own nL d G A) {n : Fin 4} {x : Nat} (hd : decode cc pc = .ok (.astore_n n, 1)) (i : Nat) (hi : (n : Nat) = i) {lv' : List (Nat × Value)} (hn : i < nL) (hl' : (i, Value.ref x) :: lv.filter (fun q => !(q.1 == i) && !(q.1 + 1 == i && q.2.category == 2)) = lv') (k : V p l e R s m args below meth c nL G A Q w kc ks (pc + 1) lv' st) : V p l e R s m args below meth c nL G A Q w kc ks pc lv (.ref x :: st) := fun H locs ls hP hD hS hl => lv_astore_n F.1 F.2.1 hd hi hl hn hl' (fun ls' h => k H locs ls' hP hD hS h)
theorem v_dload (F : FX p R s m args c cc own nL d G A) {i : Nat} {x : UInt64} (hd : decode cc pc = .ok (.dload i, 2)) (hg : lget lv i = some (.double x)) (k : V p l e R s m args below meth c nL G A Q w kc ks (pc + 2) lv (.double x :: st)) : V p l e R s m args below meth c nL G A Q w kc ks pc lv st := fun H locs ls hP hD hS hl => lv_dload F.1 F.2.1 hd (lget_at hl hg) (k H locs ls hP hD hS hl)
theorem v_dload_n (F : FX p R s m args c cc own nL d G A) {n : Fin 4} {x : UInt64} (hd : decode cc pc = .ok (.dload_n n, 1)) (i : Nat) (hi : (n : Nat) = i) (hg : lget lv i = some (.double x)) (k : V p l e R s m args below meth c nL G A Q w kc ks (pc + 1) lv (.double x :: st)) : V p l e R s m args below meth c nL G A Q w kc ks pc lv st := fun H locs ls hP hD hS hl => lv_dload_n F.1 F.2.1 hd hi (lget_at hl hg) (k H locs ls hP hD hS hl)
theorem v_dstore (F : FX p R s m args c cc own nL d G A) {i : Nat} {x : UInt64} (hd : decode cc pc = .ok (.dstore i, 2)) {lv' : List (Nat × Value)} (hn : i + 1 < nL) (hl' : (i, Value.double x) :: lv.filter (fun q => !(q.1 == i) && (!(q.1 == i + 1) && !(q.1 + 1 == i && q.2.category == 2))) = lv') (k : V p l e R s m args below meth c nL G A Q w kc ks (pc + 2) lv' st) : V p l e R s m args below meth c nL G A Q w kc ks pc lv (.double x :: st) := fun H locs ls hP hD hS hl => lv_dstore F.1 F.2.1 hd hl hn hl' (fun ls' h => k H locs ls' hP hD hS h)
theorem v_dstore_n (F : FX p R s m args c cc own nL d G A) {n : Fin 4} {x : UInt64} (hd : decode cc pc = .ok (.dstore_n n, 1)) (i : Nat) (hi : (n : Nat) = i) {lv' : List (Nat × Value)} (hn : i + 1 < nL) (hl' : (i, Value.double x) :: lv.filter (fun q => !(q.1 == i) && (!(q.1 == i + 1) && !(q.1 + 1 == i && q.2.category == 2))) = lv') (k : V p l e R s m args below meth c nL G A Q w kc ks (pc + 1) lv' st) : V p l e R s m args below meth c nL G A Q w kc ks pc lv (.double x :: st) := fun H locs ls hP hD hS hl => lv_dstore_n F.1 F.2.1 hd hi hl hn hl' (fun ls' h => k H locs ls' hP hD hS h)
theorem lget_ix : ∀ {lv : List (Nat × Value)} {i : Nat} {v : Value}, lget lv i = some v → ∃ k : Nat, lv[k]? = some (i, v)
  | [], _, _, h => by cases h
  | q :: l, i, v, h => by
    unfold lget at h
    split at h
    · rename_i he
      cases h
      exact ⟨0, by rw [← he]; rfl⟩
    · obtain ⟨k, hk⟩ := lget_ix h
      exact ⟨k + 1, hk⟩
theorem v_iinc (F : FX p R s m args c cc own nL d G A) {i : Nat} {n : Int} {x : Int32} (v : Int32) (hd : decode cc pc = .ok (.iinc i n, 3)) (hg : lget lv i = some (.int x)) (hv : x + Int32.ofInt n = v) {lv' : List (Nat × Value)} (hn : i < nL) (hl' : (i, Value.int v) :: lv.filter (fun q => !(q.1 == i) && !(q.1 + 1 == i && q.2.category == 2)) = lv') (k : V p l e R s m args below meth c nL G A Q w kc ks (pc + 3) lv' st) : V p l e R s m args below meth c nL G A Q w kc ks pc lv st := by
  obtain ⟨j, hj⟩ := lget_ix hg
  exact fun H locs ls hP hD hS hl => lv_iinc F.1 F.2.1 hd hl hj hv hn hl' (fun ls' h => k H locs ls' hP hD hS h)
theorem v_iadd (F : FX p R s m args c cc own nL d G A) {x y : Int32} (hd : decode cc pc = .ok (.iadd, 1)) (k : V p l e R s m args below meth c nL G A Q w kc ks (pc + 1) lv (.int (x + y) :: st)) : V p l e R s m args below meth c nL G A Q w kc ks pc lv (.int y :: .int x :: st) := fun H locs ls hP hD hS hl => lv_iadd F.1 F.2.1 hd  (k H locs ls hP hD hS hl)
theorem v_isub (F : FX p R s m args c cc own nL d G A) {x y : Int32} (hd : decode cc pc = .ok (.isub, 1)) (k : V p l e R s m args below meth c nL G A Q w kc ks (pc + 1) lv (.int (x - y) :: st)) : V p l e R s m args below meth c nL G A Q w kc ks pc lv (.int y :: .int x :: st) := fun H locs ls hP hD hS hl => lv_isub F.1 F.2.1 hd  (k H locs ls hP hD hS hl)
theorem v_imul (F : FX p R s m args c cc own nL d G A) {x y : Int32} (hd : decode cc pc = .ok (.imul, 1)) (k : V p l e R s m args below meth c nL G A Q w kc ks (pc + 1) lv (.int (x * y) :: st)) : V p l e R s m args below meth c nL G A Q w kc ks pc lv (.int y :: .int x :: st) := fun H locs ls hP hD hS hl => lv_imul F.1 F.2.1 hd  (k H locs ls hP hD hS hl)
theorem v_iand (F : FX p R s m args c cc own nL d G A) {x y : Int32} (hd : decode cc pc = .ok (.iand, 1)) (k : V p l e R s m args below meth c nL G A Q w kc ks (pc + 1) lv (.int (x &&& y) :: st)) : V p l e R s m args below meth c nL G A Q w kc ks pc lv (.int y :: .int x :: st) := fun H locs ls hP hD hS hl => lv_iand F.1 F.2.1 hd  (k H locs ls hP hD hS hl)
theorem v_ior (F : FX p R s m args c cc own nL d G A) {x y : Int32} (hd : decode cc pc = .ok (.ior, 1)) (k : V p l e R s m args below meth c nL G A Q w kc ks (pc + 1) lv (.int (x ||| y) :: st)) : V p l e R s m args below meth c nL G A Q w kc ks pc lv (.int y :: .int x :: st) := fun H locs ls hP hD hS hl => lv_ior F.1 F.2.1 hd  (k H locs ls hP hD hS hl)
theorem v_ishl (F : FX p R s m args c cc own nL d G A) {x y : Int32} (hd : decode cc pc = .ok (.ishl, 1)) (k : V p l e R s m args below meth c nL G A Q w kc ks (pc + 1) lv (.int (x <<< (y &&& 31)) :: st)) : V p l e R s m args below meth c nL G A Q w kc ks pc lv (.int y :: .int x :: st) := fun H locs ls hP hD hS hl => lv_ishl F.1 F.2.1 hd  (k H locs ls hP hD hS hl)
theorem v_ishr (F : FX p R s m args c cc own nL d G A) {x y : Int32} (hd : decode cc pc = .ok (.ishr, 1)) (k : V p l e R s m args below meth c nL G A Q w kc ks (pc + 1) lv (.int (x >>> (y &&& 31)) :: st)) : V p l e R s m args below meth c nL G A Q w kc ks pc lv (.int y :: .int x :: st) := fun H locs ls hP hD hS hl => lv_ishr F.1 F.2.1 hd  (k H locs ls hP hD hS hl)
theorem v_ladd (F : FX p R s m args c cc own nL d G A) {x y : Int64} (hd : decode cc pc = .ok (.ladd, 1)) (k : V p l e R s m args below meth c nL G A Q w kc ks (pc + 1) lv (.long (x + y) :: st)) : V p l e R s m args below meth c nL G A Q w kc ks pc lv (.long y :: .long x :: st) := fun H locs ls hP hD hS hl => lv_ladd F.1 F.2.1 hd  (k H locs ls hP hD hS hl)
theorem v_lsub (F : FX p R s m args c cc own nL d G A) {x y : Int64} (hd : decode cc pc = .ok (.lsub, 1)) (k : V p l e R s m args below meth c nL G A Q w kc ks (pc + 1) lv (.long (x - y) :: st)) : V p l e R s m args below meth c nL G A Q w kc ks pc lv (.long y :: .long x :: st) := fun H locs ls hP hD hS hl => lv_lsub F.1 F.2.1 hd  (k H locs ls hP hD hS hl)
theorem v_lmul (F : FX p R s m args c cc own nL d G A) {x y : Int64} (hd : decode cc pc = .ok (.lmul, 1)) (k : V p l e R s m args below meth c nL G A Q w kc ks (pc + 1) lv (.long (x * y) :: st)) : V p l e R s m args below meth c nL G A Q w kc ks pc lv (.long y :: .long x :: st) := fun H locs ls hP hD hS hl => lv_lmul F.1 F.2.1 hd  (k H locs ls hP hD hS hl)
theorem v_land (F : FX p R s m args c cc own nL d G A) {x y : Int64} (hd : decode cc pc = .ok (.land, 1)) (k : V p l e R s m args below meth c nL G A Q w kc ks (pc + 1) lv (.long (x &&& y) :: st)) : V p l e R s m args below meth c nL G A Q w kc ks pc lv (.long y :: .long x :: st) := fun H locs ls hP hD hS hl => lv_land F.1 F.2.1 hd  (k H locs ls hP hD hS hl)
theorem v_lor (F : FX p R s m args c cc own nL d G A) {x y : Int64} (hd : decode cc pc = .ok (.lor, 1)) (k : V p l e R s m args below meth c nL G A Q w kc ks (pc + 1) lv (.long (x ||| y) :: st)) : V p l e R s m args below meth c nL G A Q w kc ks pc lv (.long y :: .long x :: st) := fun H locs ls hP hD hS hl => lv_lor F.1 F.2.1 hd  (k H locs ls hP hD hS hl)
theorem v_ineg (F : FX p R s m args c cc own nL d G A) {x : Int32} (hd : decode cc pc = .ok (.ineg, 1)) (k : V p l e R s m args below meth c nL G A Q w kc ks (pc + 1) lv (.int (-x) :: st)) : V p l e R s m args below meth c nL G A Q w kc ks pc lv (.int x :: st) := fun H locs ls hP hD hS hl => lv_ineg F.1 F.2.1 hd  (k H locs ls hP hD hS hl)
theorem v_idiv (F : FX p R s m args c cc own nL d G A) {x y : Int32} (hd : decode cc pc = .ok (.idiv, 1)) (hne : ¬ y = 0) (k : V p l e R s m args below meth c nL G A Q w kc ks (pc + 1) lv (.int (x / y) :: st)) : V p l e R s m args below meth c nL G A Q w kc ks pc lv (.int y :: .int x :: st) := fun H locs ls hP hD hS hl => lv_idiv F.1 F.2.1 hd hne (k H locs ls hP hD hS hl)
theorem v_irem (F : FX p R s m args c cc own nL d G A) {x y : Int32} (hd : decode cc pc = .ok (.irem, 1)) (hne : ¬ y = 0) (k : V p l e R s m args below meth c nL G A Q w kc ks (pc + 1) lv (.int (x - x / y * y) :: st)) : V p l e R s m args below meth c nL G A Q w kc ks pc lv (.int y :: .int x :: st) := fun H locs ls hP hD hS hl => lv_irem F.1 F.2.1 hd hne (k H locs ls hP hD hS hl)
theorem v_iushr (F : FX p R s m args c cc own nL d G A) {x y v : Int32} (hd : decode cc pc = .ok (.iushr, 1)) (hv : (x.toUInt32 >>> (y.toUInt32 &&& Int32.toUInt32 31)).toInt32 = v) (k : V p l e R s m args below meth c nL G A Q w kc ks (pc + 1) lv (.int v :: st)) : V p l e R s m args below meth c nL G A Q w kc ks pc lv (.int y :: .int x :: st) := fun H locs ls hP hD hS hl => lv_iushr F.1 F.2.1 hd hv (k H locs ls hP hD hS hl)
theorem v_lshl (F : FX p R s m args c cc own nL d G A) {x v : Int64} {y : Int32} (hd : decode cc pc = .ok (.lshl, 1)) (hv : x <<< (y.toInt64 &&& 63) = v) (k : V p l e R s m args below meth c nL G A Q w kc ks (pc + 1) lv (.long v :: st)) : V p l e R s m args below meth c nL G A Q w kc ks pc lv (.int y :: .long x :: st) := fun H locs ls hP hD hS hl => lv_lshl F.1 F.2.1 hd hv (k H locs ls hP hD hS hl)
theorem v_i2l (F : FX p R s m args c cc own nL d G A) {x : Int32} (hd : decode cc pc = .ok (.i2l, 1)) (k : V p l e R s m args below meth c nL G A Q w kc ks (pc + 1) lv (.long x.toInt64 :: st)) : V p l e R s m args below meth c nL G A Q w kc ks pc lv (.int x :: st) := fun H locs ls hP hD hS hl => lv_i2l F.1 F.2.1 hd rfl (k H locs ls hP hD hS hl)
theorem v_ddiv (F : FX p R s m args c cc own nL d G A) {x y : UInt64} (hd : decode cc pc = .ok (.ddiv, 1)) (hne : vf_n64 (FP.ddiv x y)) (k : V p l e R s m args below meth c nL G A Q w kc ks (pc + 1) lv (.double (FP.ddiv x y) :: st)) : V p l e R s m args below meth c nL G A Q w kc ks pc lv (.double y :: .double x :: st) := fun H locs ls hP hD hS hl => lv_ddiv F.1 F.2.1 hd hne (k H locs ls hP hD hS hl)
theorem v_dmul (F : FX p R s m args c cc own nL d G A) {x y : UInt64} (hd : decode cc pc = .ok (.dmul, 1)) (hne : vf_n64 (FP.dmul x y)) (k : V p l e R s m args below meth c nL G A Q w kc ks (pc + 1) lv (.double (FP.dmul x y) :: st)) : V p l e R s m args below meth c nL G A Q w kc ks pc lv (.double y :: .double x :: st) := fun H locs ls hP hD hS hl => lv_dmul F.1 F.2.1 hd hne (k H locs ls hP hD hS hl)
theorem v_dsub (F : FX p R s m args c cc own nL d G A) {x y : UInt64} (hd : decode cc pc = .ok (.dsub, 1)) (hne : vf_n64 (FP.dsub x y)) (k : V p l e R s m args below meth c nL G A Q w kc ks (pc + 1) lv (.double (FP.dsub x y) :: st)) : V p l e R s m args below meth c nL G A Q w kc ks pc lv (.double y :: .double x :: st) := fun H locs ls hP hD hS hl => lv_dsub F.1 F.2.1 hd hne (k H locs ls hP hD hS hl)
theorem v_dneg (F : FX p R s m args c cc own nL d G A) {x : UInt64} (hd : decode cc pc = .ok (.dneg, 1)) (k : V p l e R s m args below meth c nL G A Q w kc ks (pc + 1) lv (.double (FP.dneg x) :: st)) : V p l e R s m args below meth c nL G A Q w kc ks pc lv (.double x :: st) := fun H locs ls hP hD hS hl => lv_dneg F.1 F.2.1 hd  (k H locs ls hP hD hS hl)
theorem v_dcmp (F : FX p R s m args c cc own nL d G A) {x y : UInt64} {op : CmpOp} (hd : decode cc pc = .ok (.dcmp op, 1)) (k : V p l e R s m args below meth c nL G A Q w kc ks (pc + 1) lv (.int (Op.cmpValue (FP.dcmp x y) op) :: st)) : V p l e R s m args below meth c nL G A Q w kc ks pc lv (.double y :: .double x :: st) := fun H locs ls hP hD hS hl => lv_dcmp F.1 F.2.1 hd  (k H locs ls hP hD hS hl)
theorem v_i2d (F : FX p R s m args c cc own nL d G A) {x : Int32} (hd : decode cc pc = .ok (.i2d, 1)) (k : V p l e R s m args below meth c nL G A Q w kc ks (pc + 1) lv (.double (FP.i2d x) :: st)) : V p l e R s m args below meth c nL G A Q w kc ks pc lv (.int x :: st) := fun H locs ls hP hD hS hl => lv_i2d F.1 F.2.1 hd  (k H locs ls hP hD hS hl)
theorem v_d2l (F : FX p R s m args c cc own nL d G A) {x : UInt64} (hd : decode cc pc = .ok (.d2l, 1)) (k : V p l e R s m args below meth c nL G A Q w kc ks (pc + 1) lv (.long (FP.d2l x) :: st)) : V p l e R s m args below meth c nL G A Q w kc ks pc lv (.double x :: st) := fun H locs ls hP hD hS hl => lv_d2l F.1 F.2.1 hd  (k H locs ls hP hD hS hl)
theorem v_lcmp (F : FX p R s m args c cc own nL d G A) {x y : Int64} (hd : decode cc pc = .ok (.lcmp, 1)) (k : V p l e R s m args below meth c nL G A Q w kc ks (pc + 1) lv (.int (lg_cmp x y) :: st)) : V p l e R s m args below meth c nL G A Q w kc ks pc lv (.long y :: .long x :: st) := fun H locs ls hP hD hS hl => W.lcmp F.1 F.2.1 hd  (k H locs ls hP hD hS hl)
theorem v_dup (F : FX p R s m args c cc own nL d G A) {va : Value} (hd : decode cc pc = .ok (.dup, 1)) (hva : va.category = 1) (k : V p l e R s m args below meth c nL G A Q w kc ks (pc + 1) lv (va :: va :: st)) : V p l e R s m args below meth c nL G A Q w kc ks pc lv (va :: st) := fun H locs ls hP hD hS hl => lv_dup F.1 F.2.1 hd hva (k H locs ls hP hD hS hl)
theorem v_pop (F : FX p R s m args c cc own nL d G A) {va : Value} (hd : decode cc pc = .ok (.pop, 1)) (hva : va.category = 1) (k : V p l e R s m args below meth c nL G A Q w kc ks (pc + 1) lv st) : V p l e R s m args below meth c nL G A Q w kc ks pc lv (va :: st) := fun H locs ls hP hD hS hl => lv_pop F.1 F.2.1 hd hva (k H locs ls hP hD hS hl)
theorem v_dup2_11 (F : FX p R s m args c cc own nL d G A) {va vb : Value} (hd : decode cc pc = .ok (.dup2, 1)) (hva : va.category = 1) (hvb : vb.category = 1) (k : V p l e R s m args below meth c nL G A Q w kc ks (pc + 1) lv (va :: vb :: va :: vb :: st)) : V p l e R s m args below meth c nL G A Q w kc ks pc lv (va :: vb :: st) := fun H locs ls hP hD hS hl => lv_dup2_11 F.1 F.2.1 hd hva hvb (k H locs ls hP hD hS hl)
theorem v_if_eq (F : FX p R s m args c cc own nL d G A) {x : Int32} {off : Int} (tgt : Nat) (hd : decode cc pc = .ok (.ifCond .eq off, 3)) (ht : (pc : Int) + off = (tgt : Int)) (kt : x = 0 → V p l e R s m args below meth c nL G A Q w kc ks tgt lv st) (kf : ¬ x = 0 → V p l e R s m args below meth c nL G A Q w kc ks (pc + 3) lv st) : V p l e R s m args below meth c nL G A Q w kc ks pc lv (.int x :: st) := fun H locs ls hP hD hS hl => lv_if_eq F.1 F.2.1 hd ht (fun h => kt h H locs ls hP hD hS hl) (fun h => kf h H locs ls hP hD hS hl)
theorem v_if_ne (F : FX p R s m args c cc own nL d G A) {x : Int32} {off : Int} (tgt : Nat) (hd : decode cc pc = .ok (.ifCond .ne off, 3)) (ht : (pc : Int) + off = (tgt : Int)) (kt : ¬ x = 0 → V p l e R s m args below meth c nL G A Q w kc ks tgt lv st) (kf : x = 0 → V p l e R s m args below meth c nL G A Q w kc ks (pc + 3) lv st) : V p l e R s m args below meth c nL G A Q w kc ks pc lv (.int x :: st) := fun H locs ls hP hD hS hl => lv_if_ne F.1 F.2.1 hd ht (fun h => kt h H locs ls hP hD hS hl) (fun h => kf h H locs ls hP hD hS hl)
theorem v_if_lt (F : FX p R s m args c cc own nL d G A) {x : Int32} {off : Int} (tgt : Nat) (hd : decode cc pc = .ok (.ifCond .lt off, 3)) (ht : (pc : Int) + off = (tgt : Int)) (kt : x < 0 → V p l e R s m args below meth c nL G A Q w kc ks tgt lv st) (kf : ¬ x < 0 → V p l e R s m args below meth c nL G A Q w kc ks (pc + 3) lv st) : V p l e R s m args below meth c nL G A Q w kc ks pc lv (.int x :: st) := fun H locs ls hP hD hS hl => lv_if_lt F.1 F.2.1 hd ht (fun h => kt h H locs ls hP hD hS hl) (fun h => kf h H locs ls hP hD hS hl)
theorem v_if_ge (F : FX p R s m args c cc own nL d G A) {x : Int32} {off : Int} (tgt : Nat) (hd : decode cc pc = .ok (.ifCond .ge off, 3)) (ht : (pc : Int) + off = (tgt : Int)) (kt : 0 ≤ x → V p l e R s m args below meth c nL G A Q w kc ks tgt lv st) (kf : ¬ 0 ≤ x → V p l e R s m args below meth c nL G A Q w kc ks (pc + 3) lv st) : V p l e R s m args below meth c nL G A Q w kc ks pc lv (.int x :: st) := fun H locs ls hP hD hS hl => lv_if_ge F.1 F.2.1 hd ht (fun h => kt h H locs ls hP hD hS hl) (fun h => kf h H locs ls hP hD hS hl)
theorem v_if_gt (F : FX p R s m args c cc own nL d G A) {x : Int32} {off : Int} (tgt : Nat) (hd : decode cc pc = .ok (.ifCond .gt off, 3)) (ht : (pc : Int) + off = (tgt : Int)) (kt : 0 < x → V p l e R s m args below meth c nL G A Q w kc ks tgt lv st) (kf : ¬ 0 < x → V p l e R s m args below meth c nL G A Q w kc ks (pc + 3) lv st) : V p l e R s m args below meth c nL G A Q w kc ks pc lv (.int x :: st) := fun H locs ls hP hD hS hl => lv_if_gt F.1 F.2.1 hd ht (fun h => kt h H locs ls hP hD hS hl) (fun h => kf h H locs ls hP hD hS hl)
theorem v_if_le (F : FX p R s m args c cc own nL d G A) {x : Int32} {off : Int} (tgt : Nat) (hd : decode cc pc = .ok (.ifCond .le off, 3)) (ht : (pc : Int) + off = (tgt : Int)) (kt : x ≤ 0 → V p l e R s m args below meth c nL G A Q w kc ks tgt lv st) (kf : ¬ x ≤ 0 → V p l e R s m args below meth c nL G A Q w kc ks (pc + 3) lv st) : V p l e R s m args below meth c nL G A Q w kc ks pc lv (.int x :: st) := fun H locs ls hP hD hS hl => lv_if_le F.1 F.2.1 hd ht (fun h => kt h H locs ls hP hD hS hl) (fun h => kf h H locs ls hP hD hS hl)
theorem v_icmp_eq (F : FX p R s m args c cc own nL d G A) {x y : Int32} {off : Int} (tgt : Nat) (hd : decode cc pc = .ok (.if_icmp .eq off, 3)) (ht : (pc : Int) + off = (tgt : Int)) (kt : x = y → V p l e R s m args below meth c nL G A Q w kc ks tgt lv st) (kf : ¬ x = y → V p l e R s m args below meth c nL G A Q w kc ks (pc + 3) lv st) : V p l e R s m args below meth c nL G A Q w kc ks pc lv (.int y :: .int x :: st) := fun H locs ls hP hD hS hl => lv_icmp_eq F.1 F.2.1 hd ht (fun h => kt h H locs ls hP hD hS hl) (fun h => kf h H locs ls hP hD hS hl)
theorem v_icmp_ne (F : FX p R s m args c cc own nL d G A) {x y : Int32} {off : Int} (tgt : Nat) (hd : decode cc pc = .ok (.if_icmp .ne off, 3)) (ht : (pc : Int) + off = (tgt : Int)) (kt : ¬ x = y → V p l e R s m args below meth c nL G A Q w kc ks tgt lv st) (kf : x = y → V p l e R s m args below meth c nL G A Q w kc ks (pc + 3) lv st) : V p l e R s m args below meth c nL G A Q w kc ks pc lv (.int y :: .int x :: st) := fun H locs ls hP hD hS hl => lv_icmp_ne F.1 F.2.1 hd ht (fun h => kt h H locs ls hP hD hS hl) (fun h => kf h H locs ls hP hD hS hl)
theorem v_icmp_lt (F : FX p R s m args c cc own nL d G A) {x y : Int32} {off : Int} (tgt : Nat) (hd : decode cc pc = .ok (.if_icmp .lt off, 3)) (ht : (pc : Int) + off = (tgt : Int)) (kt : x < y → V p l e R s m args below meth c nL G A Q w kc ks tgt lv st) (kf : ¬ x < y → V p l e R s m args below meth c nL G A Q w kc ks (pc + 3) lv st) : V p l e R s m args below meth c nL G A Q w kc ks pc lv (.int y :: .int x :: st) := fun H locs ls hP hD hS hl => lv_icmp_lt F.1 F.2.1 hd ht (fun h => kt h H locs ls hP hD hS hl) (fun h => kf h H locs ls hP hD hS hl)
theorem v_icmp_ge (F : FX p R s m args c cc own nL d G A) {x y : Int32} {off : Int} (tgt : Nat) (hd : decode cc pc = .ok (.if_icmp .ge off, 3)) (ht : (pc : Int) + off = (tgt : Int)) (kt : y ≤ x → V p l e R s m args below meth c nL G A Q w kc ks tgt lv st) (kf : ¬ y ≤ x → V p l e R s m args below meth c nL G A Q w kc ks (pc + 3) lv st) : V p l e R s m args below meth c nL G A Q w kc ks pc lv (.int y :: .int x :: st) := fun H locs ls hP hD hS hl => lv_icmp_ge F.1 F.2.1 hd ht (fun h => kt h H locs ls hP hD hS hl) (fun h => kf h H locs ls hP hD hS hl)
theorem v_icmp_gt (F : FX p R s m args c cc own nL d G A) {x y : Int32} {off : Int} (tgt : Nat) (hd : decode cc pc = .ok (.if_icmp .gt off, 3)) (ht : (pc : Int) + off = (tgt : Int)) (kt : y < x → V p l e R s m args below meth c nL G A Q w kc ks tgt lv st) (kf : ¬ y < x → V p l e R s m args below meth c nL G A Q w kc ks (pc + 3) lv st) : V p l e R s m args below meth c nL G A Q w kc ks pc lv (.int y :: .int x :: st) := fun H locs ls hP hD hS hl => lv_icmp_gt F.1 F.2.1 hd ht (fun h => kt h H locs ls hP hD hS hl) (fun h => kf h H locs ls hP hD hS hl)
theorem v_icmp_le (F : FX p R s m args c cc own nL d G A) {x y : Int32} {off : Int} (tgt : Nat) (hd : decode cc pc = .ok (.if_icmp .le off, 3)) (ht : (pc : Int) + off = (tgt : Int)) (kt : x ≤ y → V p l e R s m args below meth c nL G A Q w kc ks tgt lv st) (kf : ¬ x ≤ y → V p l e R s m args below meth c nL G A Q w kc ks (pc + 3) lv st) : V p l e R s m args below meth c nL G A Q w kc ks pc lv (.int y :: .int x :: st) := fun H locs ls hP hD hS hl => lv_icmp_le F.1 F.2.1 hd ht (fun h => kt h H locs ls hP hD hS hl) (fun h => kf h H locs ls hP hD hS hl)
theorem v_goto (F : FX p R s m args c cc own nL d G A) {off : Int} (tgt : Nat) (hd : decode cc pc = .ok (.goto off, 3)) (ht : (pc : Int) + off = (tgt : Int)) (k : V p l e R s m args below meth c nL G A Q w kc ks tgt lv st) : V p l e R s m args below meth c nL G A Q w kc ks pc lv st := fun H locs ls hP hD hS hl => lv_goto F.1 F.2.1 hd ht (k H locs ls hP hD hS hl)
theorem v_tableIn (F : FX p R s m args c cc own nL d G A) {dflt lo hi : Int} {offs : Array Int} {len : Nat} {x : Int32} {off : Int} (tgt : Nat) (hd : decode cc pc = .ok (.tableswitch dflt lo hi offs, len)) (h1 : ¬ x.toInt < lo) (h2 : ¬ hi < x.toInt) (ho : offs[(x.toInt - lo).toNat]? = some off) (ht : (pc : Int) + off = (tgt : Int)) (k : V p l e R s m args below meth c nL G A Q w kc ks tgt lv st) : V p l e R s m args below meth c nL G A Q w kc ks pc lv (.int x :: st) := fun H locs ls hP hD hS hl => lv_tableIn F.1 F.2.1 hd h1 h2 ho ht (k H locs ls hP hD hS hl)
theorem v_tableOut (F : FX p R s m args c cc own nL d G A) {dflt lo hi : Int} {offs : Array Int} {len : Nat} {x : Int32} (tgt : Nat) (hd : decode cc pc = .ok (.tableswitch dflt lo hi offs, len)) (h : x.toInt < lo ∨ hi < x.toInt) (ht : (pc : Int) + dflt = (tgt : Int)) (k : V p l e R s m args below meth c nL G A Q w kc ks tgt lv st) : V p l e R s m args below meth c nL G A Q w kc ks pc lv (.int x :: st) := fun H locs ls hP hD hS hl => lv_tableOut F.1 F.2.1 hd h ht (k H locs ls hP hD hS hl)
theorem v_lookup (F : FX p R s m args c cc own nL d G A) {dflt : Int} {ps : Array (Int × Int)} {len : Nat} {x : Int32} {off : Int} (tgt : Nat) (hd : decode cc pc = .ok (.lookupswitch dflt ps, len)) (hp : (ps.toList.zip (ps.toList.drop 1)).all (fun (a, next) => a.1 < next.1) = true) (ho : Op.lookupswitch.offset ps.toList dflt x.toInt = off) (ht : (pc : Int) + off = (tgt : Int)) (k : V p l e R s m args below meth c nL G A Q w kc ks tgt lv st) : V p l e R s m args below meth c nL G A Q w kc ks pc lv (.int x :: st) := fun H locs ls hP hD hS hl => lv_lookup F.1 F.2.1 hd hp ho ht (k H locs ls hP hD hS hl)
theorem v_topi {x : Int32} (y : Int32) (h : x = y) (k : V p l e R s m args below meth c nL G A Q w kc ks pc lv (.int y :: st)) : V p l e R s m args below meth c nL G A Q w kc ks pc lv (.int x :: st) := h ▸ k
theorem v_namei {x : Int32} (k : ∀ y : Int32, y = x → V p l e R s m args below meth c nL G A Q w kc ks pc lv (.int y :: st)) : V p l e R s m args below meth c nL G A Q w kc ks pc lv (.int x :: st) := k x rfl
theorem v_topl {x : Int64} (y : Int64) (h : x = y) (k : V p l e R s m args below meth c nL G A Q w kc ks pc lv (.long y :: st)) : V p l e R s m args below meth c nL G A Q w kc ks pc lv (.long x :: st) := h ▸ k
theorem v_st {w' : va_W} {st' : List Value} {pc' : Nat} (hw : w = w') (hpc : pc = pc') (hst : st = st') {lv' : List (Nat × Value)} (ks' : List Nat) (hlv : lv_pick lv ks' = lv') (k : V p l e R s m args below meth c nL G A Q w' kc ks pc' lv' st') : V p l e R s m args below meth c nL G A Q w kc ks pc lv st := by
  subst hw; subst hpc; subst hst
  exact fun H locs ls hP hD hS hl => k H locs ls hP hD hS (lv_sub hl ks' hlv)
theorem v_w {w' : va_W} (hw : w = w') (k : V p l e R s m args below meth c nL G A Q w' kc ks pc lv st) : V p l e R s m args below meth c nL G A Q w kc ks pc lv st := hw ▸ k
theorem v_ldc (F : FX p R s m args c cc own nL d G A) {index : Nat} {v : Int32} (hc : Cond.constant own index v ∈ GW) (hd : decode cc pc = .ok (.ldc index, 2)) (k : V p l e R s m args below meth c nL G A Q w kc ks (pc + 2) lv (.int v :: st)) : V p l e R s m args below meth c nL G A Q w kc ks pc lv st := fun H locs ls hP hD hS hl => lv_ldc F.1 F.2.1 F.2.2.2.1 (F.2.2.2.2.1 _ hc) hd (k H locs ls hP hD hS hl)
theorem v_ldcw (F : FX p R s m args c cc own nL d G A) {index : Nat} {v : Int32} (hc : Cond.constant own index v ∈ GW) (hd : decode cc pc = .ok (.ldc_w index, 3)) (k : V p l e R s m args below meth c nL G A Q w kc ks (pc + 3) lv (.int v :: st)) : V p l e R s m args below meth c nL G A Q w kc ks pc lv st := fun H locs ls hP hD hS hl => lv_ldcw F.1 F.2.1 F.2.2.2.1 (F.2.2.2.2.1 _ hc) hd (k H locs ls hP hD hS hl)
theorem v_ldc2 (F : FX p R s m args c cc own nL d G A) {index : Nat} {v : Int64} (hc : Cond.constantLong own index v ∈ GW) (hd : decode cc pc = .ok (.ldc2_w index, 3)) (k : V p l e R s m args below meth c nL G A Q w kc ks (pc + 3) lv (.long v :: st)) : V p l e R s m args below meth c nL G A Q w kc ks pc lv st := fun H locs ls hP hD hS hl => lv_ldc2 F.1 F.2.1 F.2.2.2.1 (F.2.2.2.2.1 _ hc) hd (k H locs ls hP hD hS hl)
theorem v_ldc2d (F : FX p R s m args c cc own nL d G A) {index : Nat} {v : UInt64} (hc : Cond.constantDouble own index v ∈ GW) (hd : decode cc pc = .ok (.ldc2_w index, 3)) (k : V p l e R s m args below meth c nL G A Q w kc ks (pc + 3) lv (.double v :: st)) : V p l e R s m args below meth c nL G A Q w kc ks pc lv st := fun H locs ls hP hD hS hl => lv_ldc2d F.1 F.2.1 F.2.2.2.1 (F.2.2.2.2.1 _ hc) hd (k H locs ls hP hD hS hl)
theorem v_get (F : FX p R s m args c cc own nL d G A) {a : Nat} {C : String} {T : u_T} {N ci index : Nat} (hin : ∀ w ∈ u_ws C T N, w ∈ GW) (hc : vwCl[ci]? = some (C, T, N)) (k : Nat) (hk : k < N) (hT : (T k).1 = C) (hlink : Cond.fieldLink own index C (T k).2.1 (T k).2.2.1 ∈ GW) (hd : decode cc pc = .ok (.getfield index, 3)) (q0 : Nat) {fs : List Value} (he : w[q0]? = some (a, .inr (ci, fs))) {v : Value} (hv : fs[k]? = some v) (kk : V p l e R s m args below meth c nL G A Q w kc ks (pc + 3) lv (v :: st)) : V p l e R s m args below meth c nL G A Q w kc ks pc lv (.ref a :: st) := fun H locs ls hP hD hS hl => va_get F.1 F.2.1 F.2.2.2.2.1 hin F.2.2.2.1 F.2.2.2.2.2.2.1 hP q0 he hc k hk (F.2.2.2.2.1 _ hlink) (fun _ h9 => hT ▸ h9) hv hd (kk H locs ls hP hD hS hl)
theorem v_put (F : FX p R s m args c cc own nL d G A) {a : Nat} {C : String} {T : u_T} {N ci index : Nat} (hin : ∀ w ∈ u_ws C T N, w ∈ GW) (hc : vwCl[ci]? = some (C, T, N)) (ty0 : Nat → FieldType) (hty : ∀ k, k < N → parseFieldDescriptor (T k).2.2.1 = some (ty0 k)) (hnm : ∀ a, a < N → ∀ b, b < N → a ≠ b → (T a).2.1 ≠ (T b).2.1) (k : Nat) (hk : k < N) (hT : (T k).1 = C) (hfin : (T k).2.2.2 = false) (hlink : Cond.fieldLink own index C (T k).2.1 (T k).2.2.1 ∈ GW) (hd : decode cc pc = .ok (.putfield index, 3)) {ty : FieldType} {v : Value} (hdd : parseFieldDescriptor (T k).2.2.1 = some ty) (hn : narrow ty v = v) (hfit : fits ty v = true) (q0 : Nat) {fs : List Value} (he : w[q0]? = some (a, .inr (ci, fs))) (hl0 : k < fs.length) (w' : va_W) (hw : w.set q0 (a, .inr (ci, fs.set k v)) = w') (kk : V p l e R s m args below meth c nL G A Q w' kc ks (pc + 3) lv st) : V p l e R s m args below meth c nL G A Q w kc ks pc lv (v :: .ref a :: st) := fun H locs ls hP hD hS hl => va_put F.1 F.2.1 F.2.2.2.2.1 hin ty0 hty hnm F.2.2.2.1 F.2.2.2.2.2.2.1 hP hD hS q0 he hc k hk (F.2.2.2.2.1 _ hlink) (fun _ h9 => hT ▸ h9) hfin hdd hn hfit hl0 hd (fun H1 locs1 hP1 hD1 hS1 => kk H1 locs1 ls (hw ▸ hP1) (hw ▸ hD1) hS1 hl)
theorem v_iald (F : FX p R s m args c cc own nL d G A) {a n : Nat} {f : Nat → Int32} {i : Int32} (hd : decode cc pc = .ok (.iaload, 1)) (q0 : Nat) (ha : w[q0]? = some (a, .inl (G.2.1, n, .inl f))) (hin : vp_in i n) (k : V p l e R s m args below meth c nL G A Q w kc ks (pc + 1) lv (.int (f i.toNatClampNeg) :: st)) : V p l e R s m args below meth c nL G A Q w kc ks pc lv (.int i :: .ref a :: st) := fun H locs ls hP hD hS hl => va_iald F.1 F.2.1 F.2.2.2.2.2.2.1 hP q0 0 ha rfl hin hd (k H locs ls hP hD hS hl)
theorem v_ialdN (F : FX p R s m args c cc own nL d G A) {a n : Nat} {f : Nat → Int32} {i : Int32} (hd : decode cc pc = .ok (.iaload, 1)) (q0 : Nat) (ha : w[q0]? = some (a, .inl (G.2.1, n, .inl f))) (j : Nat) (hi : i = nI j) (hj : j < n) (hn : n < 2 ^ 31) (v : Int32) (hv : f j = v) (k : V p l e R s m args below meth c nL G A Q w kc ks (pc + 1) lv (.int v :: st)) : V p l e R s m args below meth c nL G A Q w kc ks pc lv (.int i :: .ref a :: st) := by
  subst hi; subst hv
  refine v_iald F hd q0 ha (vp_in_nI hj hn) ?_
  rw [nI_clamp (Nat.lt_trans hj hn)]
  exact k
theorem v_iastN (F : FX p R s m args c cc own nL d G A) {a n : Nat} {f : Nat → Int32} {i x : Int32} (hd : decode cc pc = .ok (.iastore, 1)) (q0 : Nat) (ha : w[q0]? = some (a, .inl (G.2.1, n, .inl f))) (j : Nat) (hi : i = nI j) (hj : j < n) (hn : n < 2 ^ 31) (w' : va_W) (hw : w.set q0 (a, .inl (G.2.1, n, .inl (upd f j x))) = w') (k : V p l e R s m args below meth c nL G A Q w' kc ks (pc + 1) lv st) : V p l e R s m args below meth c nL G A Q w kc ks pc lv (.int x :: .int i :: .ref a :: st) := by
  subst hi; subst hw
  refine fun H locs ls hP hD hS hl => va_iast F.1 F.2.1 F.2.2.2.2.2.2.1 hP hD hS q0 0 ha rfl (vp_in_nI hj hn) hd (fun H1 locs1 hP1 hD1 hS1 => ?_)
  rw [nI_clamp (Nat.lt_trans hj hn)] at hP1 hD1
  exact k H1 locs1 ls hP1 hD1 hS1 hl
theorem v_alen (F : FX p R s m args c cc own nL d G A) {a n : Nat} {f : Nat → Int32} (hd : decode cc pc = .ok (.arraylength, 1)) (q0 : Nat) (ha : w[q0]? = some (a, .inl (G.2.1, n, .inl f))) (k : V p l e R s m args below meth c nL G A Q w kc ks (pc + 1) lv (.int (nI n) :: st)) : V p l e R s m args below meth c nL G A Q w kc ks pc lv (.ref a :: st) := fun H locs ls hP hD hS hl => va_alen F.1 F.2.1 F.2.2.2.2.2.2.1 hP q0 0 ha (ty := .int) rfl rfl hd (k H locs ls hP hD hS hl)
theorem v_copyN (F : FX p R s m args c cc own nL d G A) {index a a0 n0 n1 : Nat} {f g : Nat → Int32} (hlink : Cond.methodLink own index arraycopyName ∈ GW) (hnat : Cond.native arraycopyName ∈ GW) (hstat : Cond.static arraycopyName ∈ GW) (hini : Cond.initialized "java/lang/System" ∈ GW) (hd : decode cc pc = .ok (.invokestatic index, 3)) (q0 q1 : Nat) (ha0 : w[q0]? = some (a0, .inl (G.2.1, n0, .inl f))) (ha1 : w[q1]? = some (a, .inl (G.2.1, n1, .inl g))) {sp dp n : Int32} (SP DP N : Nat) (hsp : sp = nI SP) (hdp : dp = nI DP) (hn : n = nI N) (h4 : SP + N ≤ n0) (h5 : DP + N ≤ n1) (b0 : n0 < 2 ^ 31) (b1 : n1 < 2 ^ 31) (hl1 : 1 ≤ R.frames) (hl2 : (st.map fun v => v.category).sum + (nativeFrameWords "java/lang/System" "arraycopy" 5 + 11) ≤ R.locals) (w' : va_W) (hw : w.set q1 (a, .inl (G.2.1, n1, .inl (va_cpy f g SP DP N))) = w') (k : V p l e R s m args below meth c nL G A Q w' kc ks (pc + 3) lv st) : V p l e R s m args below meth c nL G A Q w kc ks pc lv (.int n :: .int dp :: .ref a :: .int sp :: .ref a0 :: st) := by
  subst hsp; subst hdp; subst hn; subst hw
  refine fun H locs ls hP hD hS hl => va_copyi F.1 F.2.1 (by rw [F.2.2.1]; exact hl.1.symm) F.2.2.2.1 (F.2.2.2.2.1 _ hlink) (F.2.2.2.2.1 _ hnat) (F.2.2.2.2.1 _ hstat) (F.2.2.2.2.1 _ hini) F.2.2.2.2.2.2.1 hP hD hS q0 q1 0 0 (ty := .int) ha0 ha1 rfl rfl rfl (nI_pos (by omega)) (nI_pos (by omega)) (nI_pos (by omega)) (by rw [nI_clamp (by omega), nI_clamp (by omega)]; exact h4) (by rw [nI_clamp (by omega), nI_clamp (by omega)]; exact h5) (fun _ _ => rfl) hl1 hl2 hd (fun H1 locs1 hP1 hD1 hS1 => ?_)
  rw [nI_clamp (by omega), nI_clamp (by omega), nI_clamp (by omega)] at hP1 hD1
  exact k H1 locs1 ls hP1 hD1 hS1 hl
end VROWS
end
section
/-! contracts over one world w, the room by levels, and the rows that call them -/
abbrev WS (y : MethodName) (b : ByteArray) (mL : Nat) (rt : Option FieldType) : List Cond := Cond.code y b mL rt :: GW
theorem GW_in {y : MethodName} {b : ByteArray} {mL : Nat} {rt : Option FieldType} (h : Cond.code y b mL rt ∈ GW) : GoodIn GW (WS y b mL rt) := goodIn_sub (fun w hw => (List.mem_cons.mp hw).elim (fun e => by rw [e]; exact h) id) (List.all_eq_true.mpr (fun w hw => List.all_eq_true.mp GW_good w ((List.mem_cons.mp hw).elim (fun e => by rw [e]; exact h) id)))
def PreW (G : GT) (w : va_W) (sz : Nat) (U : State) : Prop := U.heap.size = sz ∧ va_P G.1 vwCl w U.heap ∧ va_K G.1 vwCl (TYS G) U ∧ va_D (fun _ => True) w
def PoW (G : GT) (A : Nat → Prop) (w1 : va_W) (t : State) : Prop := va_P G.1 vwCl w1 t.heap ∧ va_K G.1 vwCl (TYS G) t ∧ va_D A w1
theorem fb_PreW {av : List Value} {G : GT} {w : va_W} {sz : Nat} : FrameBlind (va_Pc av (PreW G w sz)) := fun a U g mk q => by
  obtain ⟨q0, q1, qP, qK, qD⟩ := q
  exact ⟨q0, q1, qP, va_K.moved (u := U) (U := U.calling g mk a) (Vm.Alike.refl U.vm) qK, qD⟩
def MI (l : Launch) (G : GT) (d : Nat) (y : MethodName) (b : ByteArray) (mL : Nat) (rt : Option FieldType) (av : List Value) (w : va_W) {S : Type} (w1 : S → va_W) (post : Int32 → S → Prop) : Prop :=
  ∀ sz, Met l y (WS y b mL rt) (RM d) (va_Pc av (PreW G w sz)) (va_Qi post (fun u t => PoW G (va_A w sz) (w1 u) t) (va_A w sz)) 0 0 (va_A w sz)
def ML (l : Launch) (G : GT) (d : Nat) (y : MethodName) (b : ByteArray) (mL : Nat) (rt : Option FieldType) (av : List Value) (w : va_W) {S : Type} (w1 : S → va_W) (post : Int64 → S → Prop) : Prop :=
  ∀ sz, Met l y (WS y b mL rt) (RM d) (va_Pc av (PreW G w sz)) (va_Ql post (fun u t => PoW G (va_A w sz) (w1 u) t) (va_A w sz)) 0 0 (va_A w sz)
def MD (l : Launch) (G : GT) (d : Nat) (y : MethodName) (b : ByteArray) (mL : Nat) (rt : Option FieldType) (av : List Value) (w : va_W) {S : Type} (w1 : S → va_W) (post : UInt64 → S → Prop) : Prop :=
  ∀ sz, Met l y (WS y b mL rt) (RM d) (va_Pc av (PreW G w sz)) (va_Qd post (fun u t => PoW G (va_A w sz) (w1 u) t) (va_A w sz)) 0 0 (va_A w sz)
def MV (l : Launch) (G : GT) (d : Nat) (y : MethodName) (b : ByteArray) (mL : Nat) (rt : Option FieldType) (av : List Value) (w : va_W) {S : Type} (w1 : S → va_W) (post : S → Prop) : Prop :=
  ∀ sz, Met l y (WS y b mL rt) (RM d) (va_Pc av (PreW G w sz)) (va_Qv post (fun u t => PoW G (va_A w sz) (w1 u) t) (va_A w sz)) 0 0 (va_A w sz)
/-- into a body: Qx the answer's form -/
theorem v_enter {l : Launch} {G : GT} {d mc ms sz : Nat} {rm : Room} {y : MethodName} {b : ByteArray} {mL : Nat} {rt : Option FieldType} {av : List Value} {w : va_W} {Qc : Array Value → State → Outcome → State → Prop} (hrf : d ≤ rm.frames) (hrl : 32 * d ≤ rm.locals)
    (hy : plainName y.cls = true) (hlen : (lg_sl av).length ≤ mL)
    (body : ∀ (p : Program) (e : Env) (s : State) (m : MethodId) (args : Array Value) (below : List Frame) (meth : Method) (c : Code), FX p rm s m args c b y.cls mL d G (va_A w sz) → meth.sig.returnType = rt → meth.locks = false → meth.name = y.name → s.heap.size = sz → V p l e rm s m args below meth c mL G (va_A w sz) (MQ below Qc args s mc ms (va_A w sz)) w 0 0 0 (lv_args 0 av) []) :
    Met l y (WS y b mL rt) rm (va_Pc av (PreW G w sz)) Qc mc ms (va_A w sz) := by
  refine Met.ofW (cc := b) (maxL := mL) (ret := rt) hy rfl ?_
  intro p e s m args below meth c s₁ B hml hv
  obtain ⟨rfl, hsz, hP, hK, hD0⟩ := hv
  have hts0 := atoms_spec (ws := WS y b mL rt) B.pre
  have hown : s.vm.findClass y.cls = some m.cls := findClass_of_methodNamed B.named
  have hD : va_D (va_A w sz) w := hD0.self
  have hA : ∀ q : Nat, s.heap.size ≤ q → va_A w sz q := fun q h => Or.inr (hsz ▸ h)
  have F : FX p rm s m av.toArray c b y.cls mL d G (va_A w sz) := ⟨B.exec, B.bytes, hml, hown, fun w hw => hts0 w (List.mem_cons_of_mem _ hw), hA, hK, hrf, hrl⟩
  have hl := lv_entry av (n := mL) hlen
  rw [lg_entry_eq]
  exact body p e s m av.toArray below meth c F B.returns B.notSynchronized (name_of_methodNamed B.named B.method).1 hsz s.heap [] _ hP hD va_S.rf hl
theorem mi_of {l : Launch} {G : GT} {d : Nat} {y : MethodName} {b : ByteArray} {mL : Nat} {rt : Option FieldType} {av : List Value} {w : va_W} {S : Type} {w1 : S → va_W} {post : Int32 → S → Prop} (hy : plainName y.cls = true) (hlen : (lg_sl av).length ≤ mL)
    (body : ∀ (p : Program) (e : Env) (s : State) (m : MethodId) (args : Array Value) (below : List Frame) (meth : Method) (c : Code) (A : Nat → Prop) (Q : State → Prop), FX p (RM d) s m args c b y.cls mL d G A → meth.sig.returnType = rt → meth.locks = false → Q = MQ below (va_Qi post (fun u t => PoW G A (w1 u) t) A) args s 0 0 A → V p l e (RM d) s m args below meth c mL G A Q w 0 0 0 (lv_args 0 av) []) : MI l G d y b mL rt av w w1 post :=
  fun _ => v_enter (Nat.le_refl _) (Nat.le_refl _) hy hlen (fun p e s m args below meth c F h1 h2 _ _ => body p e s m args below meth c _ _ F h1 h2 rfl)
theorem ml_of {l : Launch} {G : GT} {d : Nat} {y : MethodName} {b : ByteArray} {mL : Nat} {rt : Option FieldType} {av : List Value} {w : va_W} {S : Type} {w1 : S → va_W} {post : Int64 → S → Prop} (hy : plainName y.cls = true) (hlen : (lg_sl av).length ≤ mL)
    (body : ∀ (p : Program) (e : Env) (s : State) (m : MethodId) (args : Array Value) (below : List Frame) (meth : Method) (c : Code) (A : Nat → Prop) (Q : State → Prop), FX p (RM d) s m args c b y.cls mL d G A → meth.sig.returnType = rt → meth.locks = false → Q = MQ below (va_Ql post (fun u t => PoW G A (w1 u) t) A) args s 0 0 A → V p l e (RM d) s m args below meth c mL G A Q w 0 0 0 (lv_args 0 av) []) : ML l G d y b mL rt av w w1 post :=
  fun _ => v_enter (Nat.le_refl _) (Nat.le_refl _) hy hlen (fun p e s m args below meth c F h1 h2 _ _ => body p e s m args below meth c _ _ F h1 h2 rfl)
theorem md_of {l : Launch} {G : GT} {d : Nat} {y : MethodName} {b : ByteArray} {mL : Nat} {rt : Option FieldType} {av : List Value} {w : va_W} {S : Type} {w1 : S → va_W} {post : UInt64 → S → Prop} (hy : plainName y.cls = true) (hlen : (lg_sl av).length ≤ mL)
    (body : ∀ (p : Program) (e : Env) (s : State) (m : MethodId) (args : Array Value) (below : List Frame) (meth : Method) (c : Code) (A : Nat → Prop) (Q : State → Prop), FX p (RM d) s m args c b y.cls mL d G A → meth.sig.returnType = rt → meth.locks = false → Q = MQ below (va_Qd post (fun u t => PoW G A (w1 u) t) A) args s 0 0 A → V p l e (RM d) s m args below meth c mL G A Q w 0 0 0 (lv_args 0 av) []) : MD l G d y b mL rt av w w1 post :=
  fun _ => v_enter (Nat.le_refl _) (Nat.le_refl _) hy hlen (fun p e s m args below meth c F h1 h2 _ _ => body p e s m args below meth c _ _ F h1 h2 rfl)
theorem mv_of {l : Launch} {G : GT} {d : Nat} {y : MethodName} {b : ByteArray} {mL : Nat} {rt : Option FieldType} {av : List Value} {w : va_W} {S : Type} {w1 : S → va_W} {post : S → Prop} (hy : plainName y.cls = true) (hlen : (lg_sl av).length ≤ mL)
    (body : ∀ (p : Program) (e : Env) (s : State) (m : MethodId) (args : Array Value) (below : List Frame) (meth : Method) (c : Code) (A : Nat → Prop) (Q : State → Prop), FX p (RM d) s m args c b y.cls mL d G A → meth.sig.returnType = rt → meth.locks = false → Q = MQ below (va_Qv post (fun u t => PoW G A (w1 u) t) A) args s 0 0 A → V p l e (RM d) s m args below meth c mL G A Q w 0 0 0 (lv_args 0 av) []) : MV l G d y b mL rt av w w1 post :=
  fun _ => v_enter (Nat.le_refl _) (Nat.le_refl _) hy hlen (fun p e s m args below meth c F h1 h2 _ _ => body p e s m args below meth c _ _ F h1 h2 rfl)
def bI (b : Bool) : Int32 := if b then 1 else 0
theorem bI_f {b : Bool} (h : bI b = 0) : b = false := by cases b <;> first | rfl | exact absurd h (by decide)
theorem bI_t {b : Bool} (h : ¬ bI b = 0) : b = true := by cases b <;> first | rfl | exact absurd rfl h
theorem nar_b (b : Bool) : narrow .boolean (.int (bI b)) = .int (bI b) := by cases b <;> rfl
theorem fit_b (b : Bool) : fits .boolean (.int (bI b)) = true := by cases b <;> rfl
theorem nE {a b : Nat} (ha : a < 2 ^ 31) (hb : b < 2 ^ 31) (h : nI a = nI b) : a = b := (nI_eq ha hb).mp h
theorem nEn {a b : Nat} (ha : a < 2 ^ 31) (hb : b < 2 ^ 31) (h : ¬ nI a = nI b) : ¬ a = b := fun e => h (by rw [e])
theorem nL {a b : Nat} (ha : a < 2 ^ 31) (hb : b < 2 ^ 31) (h : nI a < nI b) : a < b := (nI_ltI ha hb).mp h
theorem nLn {a b : Nat} (ha : a < 2 ^ 31) (hb : b < 2 ^ 31) (h : ¬ nI a < nI b) : b ≤ a := Nat.not_lt.mp (fun q => h ((nI_ltI ha hb).mpr q))
theorem nG {a b : Nat} (ha : a < 2 ^ 31) (hb : b < 2 ^ 31) (h : nI b ≤ nI a) : b ≤ a := (nI_leI hb ha).mp h
theorem nGn {a b : Nat} (ha : a < 2 ^ 31) (hb : b < 2 ^ 31) (h : ¬ nI b ≤ nI a) : a < b := Nat.not_le.mp (fun q => h ((nI_leI hb ha).mpr q))
theorem nT {a b : Nat} (ha : a < 2 ^ 31) (hb : b < 2 ^ 31) (h : nI b < nI a) : b < a := (nI_ltI hb ha).mp h
theorem nTn {a b : Nat} (ha : a < 2 ^ 31) (hb : b < 2 ^ 31) (h : ¬ nI b < nI a) : a ≤ b := Nat.not_lt.mp (fun q => h ((nI_ltI hb ha).mpr q))
theorem nK {a b : Nat} (ha : a < 2 ^ 31) (hb : b < 2 ^ 31) (h : nI a ≤ nI b) : a ≤ b := (nI_leI ha hb).mp h
theorem nKn {a b : Nat} (ha : a < 2 ^ 31) (hb : b < 2 ^ 31) (h : ¬ nI a ≤ nI b) : b < a := Nat.not_le.mp (fun q => h ((nI_leI ha hb).mpr q))
section VCALL
variable {p : Program} {l : Launch} {e : Env} {R : Room} {s : State} {m : MethodId} {args : Array Value} {below : List Frame} {meth : Method} {c : Code} {cc : ByteArray} {own : String} {nL d : Nat} {G : GT} {A : Nat → Prop} {Q : State → Prop} {w : va_W} {kc ks pc : Nat} {lv : List (Nat × Value)} {st : List Value}
/-! ends -/
theorem v_zret (F : FX p R s m args c cc own nL d G A) {rt : FieldType} (hr : meth.sig.returnType = some rt) (hlocks : meth.locks = false) {S : Type} {w1 : S → va_W} {post : Int32 → S → Prop} (hQ : Q = MQ below (va_Qi post (fun u t => PoW G A (w1 u) t) A) args s kc ks A) {v : Int32} (hn : narrow rt (.int v) = .int v) (hd : decode cc pc = .ok (.ireturn, 1)) (u : S) (hw : w = w1 u) (hp : post v u) : V p l e R s m args below meth c nL G A Q w kc ks pc lv [.int v] := by
  subst hw; subst hQ
  exact fun H locs ls hP hD hS hl => W.zret F.1 F.2.1 hr hn (fun t ht hW => ⟨⟨v, u, rfl, hp, by rw [ht]; exact hP, va_K.moved hW.alike F.2.2.2.2.2.2.1, hD⟩, hS.F ht⟩) hS.2.2 hd hlocks
theorem v_iret (F : FX p R s m args c cc own nL d G A) (hr : meth.sig.returnType = some .int) (hlocks : meth.locks = false) {S : Type} {w1 : S → va_W} {post : Int32 → S → Prop} (hQ : Q = MQ below (va_Qi post (fun u t => PoW G A (w1 u) t) A) args s kc ks A) {v : Int32} (hd : decode cc pc = .ok (.ireturn, 1)) (u : S) (hw : w = w1 u) (hp : post v u) : V p l e R s m args below meth c nL G A Q w kc ks pc lv [.int v] := v_zret F hr hlocks hQ rfl hd u hw hp
theorem v_lret (F : FX p R s m args c cc own nL d G A) (hr : meth.sig.returnType = some .long) (hlocks : meth.locks = false) {S : Type} {w1 : S → va_W} {post : Int64 → S → Prop} (hQ : Q = MQ below (va_Ql post (fun u t => PoW G A (w1 u) t) A) args s kc ks A) {v : Int64} (hd : decode cc pc = .ok (.lreturn, 1)) (u : S) (hw : w = w1 u) (hp : post v u) : V p l e R s m args below meth c nL G A Q w kc ks pc lv [.long v] := by
  subst hw; subst hQ
  exact fun H locs ls hP hD hS hl => W.lret F.1 F.2.1 hr (fun t ht hW => ⟨⟨v, u, rfl, hp, by rw [ht]; exact hP, va_K.moved hW.alike F.2.2.2.2.2.2.1, hD⟩, hS.F ht⟩) hS.2.2 hd hlocks
theorem v_dret (F : FX p R s m args c cc own nL d G A) (hr : meth.sig.returnType = some .double) (hlocks : meth.locks = false) {S : Type} {w1 : S → va_W} {post : UInt64 → S → Prop} (hQ : Q = MQ below (va_Qd post (fun u t => PoW G A (w1 u) t) A) args s kc ks A) {v : UInt64} (hd : decode cc pc = .ok (.dreturn, 1)) (u : S) (hw : w = w1 u) (hp : post v u) : V p l e R s m args below meth c nL G A Q w kc ks pc lv [.double v] := by
  subst hw; subst hQ
  exact fun H locs ls hP hD hS hl => W.dret F.1 F.2.1 hr (fun t ht hW => ⟨⟨v, u, rfl, hp, by rw [ht]; exact hP, va_K.moved hW.alike F.2.2.2.2.2.2.1, hD⟩, hS.F ht⟩) hS.2.2 hd hlocks
theorem v_vret (F : FX p R s m args c cc own nL d G A) (hr : meth.sig.returnType = none) (hlocks : meth.locks = false) {S : Type} {w1 : S → va_W} {post : S → Prop} (hQ : Q = MQ below (va_Qv post (fun u t => PoW G A (w1 u) t) A) args s kc ks A) (hd : decode cc pc = .ok (.return_, 1)) (u : S) (hw : w = w1 u) (hp : post u) : V p l e R s m args below meth c nL G A Q w kc ks pc lv [] := by
  subst hw; subst hQ
  exact fun H locs ls hP hD hS hl => W.vret F.1 F.2.1 hr (fun t ht hW => ⟨⟨u, rfl, hp, by rw [ht]; exact hP, va_K.moved hW.alike F.2.2.2.2.2.2.1, hD⟩, hS.F ht⟩) hS.2.2 hd hlocks
/-! calls: what the words say of a site -/
def CSV (own : String) (idx : Nat) (C : String) (y : MethodName) (b : ByteArray) (mL : Nat) (rt : Option FieldType) (n : Nat) : Prop :=
  Cond.code y b mL rt ∈ GW ∧ Cond.methodLink own idx y ∈ GW ∧ Cond.instanceMethod y ∈ GW ∧ Cond.selects C y y ∈ GW ∧ Cond.initialized C ∈ GW ∧ (y.cls = C ∧ y.cls ≠ "java/lang/invoke/MethodHandle" ∧ y.cls ≠ "java/lang/invoke/VarHandle" ∧ (parseMethodDescriptor y.desc).map (fun d => d.parameters.length) = some n) ∧ mL ≤ 13
def CSS (own : String) (idx : Nat) (y : MethodName) (b : ByteArray) (mL : Nat) (rt : Option FieldType) (n : Nat) : Prop :=
  Cond.code y b mL rt ∈ GW ∧ Cond.methodLink own idx y ∈ GW ∧ Cond.static y ∈ GW ∧ Cond.initialized y.cls ∈ GW ∧ (y.cls ≠ "java/lang/invoke/MethodHandle" ∧ y.cls ≠ "java/lang/invoke/VarHandle" ∧ (parseMethodDescriptor y.desc).map (fun d => d.parameters.length) = some n) ∧ mL ≤ 13
theorem CSV.use {own : String} {idx : Nat} {C : String} {y : MethodName} {b : ByteArray} {mL : Nat} {rt : Option FieldType} {n d' mc ms : Nat} {rm : Room} (h : CSV own idx C y b mL rt n) (F : FX p R s m args c cc own nL d G A) (hrc : rm.cells = mc) (hrs : rm.slots = ms) (hrf : rm.frames = d') (hrl : rm.locals = 32 * d') (hd : d' + 1 ≤ d) : CallW R s args own C idx y b mL rt (WS y b mL rt) rm mc ms n := by
  obtain ⟨h1, h2, h3, h4, h5, h6, h7⟩ := h
  obtain ⟨f1, f2, f3, f4, f5, f6, f7, f8, f9⟩ := F
  exact ⟨callB_of n f5 (GW_in h1) rfl hrc hrs (by rw [h6.1]; exact f5 _ h5) (f5 _ h2) h6.2 ⟨by omega, by omega⟩, f5 _ h3, f5 _ h4⟩
theorem CSS.use {own : String} {idx : Nat} {y : MethodName} {b : ByteArray} {mL : Nat} {rt : Option FieldType} {n d' mc ms : Nat} {rm : Room} (h : CSS own idx y b mL rt n) (F : FX p R s m args c cc own nL d G A) (hrc : rm.cells = mc) (hrs : rm.slots = ms) (hrf : rm.frames = d') (hrl : rm.locals = 32 * d') (hd : d' + 1 ≤ d) : CallB R s args own idx y b mL rt (WS y b mL rt) rm mc ms n ∧ (Cond.static y).before args s = true := by
  obtain ⟨h1, h2, h3, h4, h6, h7⟩ := h
  obtain ⟨f1, f2, f3, f4, f5, f6, f7, f8, f9⟩ := F
  exact ⟨callB_of n f5 (GW_in h1) rfl hrc hrs (f5 _ h4) (f5 _ h2) h6 ⟨by omega, by omega⟩, f5 _ h3⟩
theorem v_preV {H : Heap} {ci : Nat} {C : String} {T : u_T} {N q0 b0 : Nat} {fs As : List Value} {wc : va_W} (F : FX p R s m args c cc own nL d G A) (hP : va_P G.1 vwCl w H) (hPc : va_P G.1 vwCl wc H) (hDc : va_D A wc) (hc : vwCl[ci]? = some (C, T, N)) (he : w[q0]? = some (b0, .inr (ci, fs))) : PreV s H C b0 (va_Pc (.ref b0 :: As) (PreW G wc H.size)) As :=
  ⟨fb_PreW, va_recv F.2.2.2.2.2.2.1 hP hc he, fun U hU hW => ⟨rfl, by rw [hU], by rw [hU]; exact hPc, va_K.moved hW.alike F.2.2.2.2.2.2.1, hDc.weaken (fun _ _ _ _ => trivial)⟩⟩
theorem v_preS {H : Heap} {As : List Value} {wc : va_W} (F : FX p R s m args c cc own nL d G A) (hPc : va_P G.1 vwCl wc H) (hDc : va_D A wc) : PreS s H (va_Pc As (PreW G wc H.size)) As :=
  ⟨fb_PreW, fun U hU hW => ⟨rfl, by rw [hU], by rw [hU]; exact hPc, va_K.moved hW.alike F.2.2.2.2.2.2.1, hDc.weaken (fun _ _ _ _ => trivial)⟩⟩
theorem v_freeA {H : Heap} {locs : List Loc} (F : FX p R s m args c cc own nL d G A) (hD : va_D A w) (hS : va_S A s.heap H locs) : ∀ q, va_A w H.size q → A q := fun q h => by
  rcases h with ⟨k, e, h⟩ | h
  · exact hD.2 k _ h
  · exact F.2.2.2.2.2.1 q (Nat.le_trans hS.1 h)
theorem v_free0 {H : Heap} {locs : List Loc} (F : FX p R s m args c cc own nL d G A) (hS : va_S A s.heap H locs) : ∀ q, va_A [] H.size q → A q := fun q h => by
  rcases h with ⟨k, e, h⟩ | h
  · simp at h
  · exact F.2.2.2.2.2.1 q (Nat.le_trans hS.1 h)
theorem v_nil {B : Nat → Prop} : va_D B [] := ⟨fun i j p q h => by simp at h, fun k q h => by simp at h⟩
theorem v_nilP {H : Heap} : va_P G.1 vwCl [] H := fun k q h => by simp at h
theorem v_kept0 {H H1 : Heap} (hP : va_P G.1 vwCl w H) (hk : ∀ q : Nat, q < H.size → ¬ va_A [] H.size q → H1[q]? = H[q]?) : va_P G.1 vwCl w H1 :=
  hP.kept (fun k q hq => hk q.1 (hP k q hq).lt (fun h => by
    rcases h with ⟨k, e, h⟩ | h
    · simp at h
    · have := (hP k q hq).lt; omega))
end VCALL
end
section
section VCALL2
variable {p : Program} {l : Launch} {e : Env} {R : Room} {s : State} {m : MethodId} {args : Array Value} {below : List Frame} {meth : Method} {c : Code} {cc : ByteArray} {own : String} {nL d : Nat} {G : GT} {A : Nat → Prop} {Q : State → Prop} {w : va_W} {kc ks pc : Nat} {lv : List (Nat × Value)} {st : List Value}
theorem v_cVIF (F : FX p R s m args c cc own nL d G A) {idx ci : Nat} {C : String} {T : u_T} {N : Nat} {y : MethodName} {b : ByteArray} {mL n : Nat} {rt : Option FieldType} (cs : CSV own idx C y b mL rt n) (hd : decode cc pc = .ok (.invokevirtual idx, 3)) (q0 : Nat) {b0 : Nat} {fs : List Value} (he : w[q0]? = some (b0, .inr (ci, fs))) (hc : vwCl[ci]? = some (C, T, N)) {d' : Nat} {As rest : List Value} {S : Type} {w1 : S → va_W} {post : Int32 → S → Prop} (M0 : MI l G d' y b mL rt (.ref b0 :: As) w w1 post) (hdd : d' + 1 ≤ d) (hn1 : As.length = n) (hst : st = As.reverse ++ .ref b0 :: rest) (hcat : (rest.map fun v => v.category).sum ≤ 8) (hkc : kc ≤ R.cells ∧ ks ≤ R.slots) (k : ∀ (r : Int32) (u : S), post r u → V p l e R s m args below meth c nL G A Q (w1 u) kc ks (pc + 3) lv (.int r :: rest)) : V p l e R s m args below meth c nL G A Q w kc ks pc lv st := by
  subst hst
  refine fun H locs ls hP hD hS hl => va_calli (va_runV (As := As) (rest := rest) ⟨F.1, F.2.1, F.2.2.1, F.2.2.2.1, F.2.2.2.2.1⟩ (M0 H.size) (cs.use F rfl rfl rfl rfl hdd) (v_preV F hP hP hD hc he) rfl hn1 hl.1 rfl (lv_room hcat) hd ⟨hkc.1, hkc.2⟩) hS (fun q _ h => (v_freeA F hD hS) q h) (v_freeA F hD hS) (fun r u t H1 locs1 ht hvm hw hB hz1 hk1 hS1 => ?_)
  exact k r u hw H1 locs1 ls (by rw [← ht]; exact hB.1) (hB.2.2.weaken (fun _ q _ h => (v_freeA F hD hS) q.1 h)) hS1 hl
theorem v_cSIF (F : FX p R s m args c cc own nL d G A) {idx : Nat} {y : MethodName} {b : ByteArray} {mL n : Nat} {rt : Option FieldType} (cs : CSS own idx y b mL rt n) (hd : decode cc pc = .ok (.invokestatic idx, 3)) {d' : Nat} {As rest : List Value} {S : Type} {w1 : S → va_W} {post : Int32 → S → Prop} (M0 : MI l G d' y b mL rt As w w1 post) (hdd : d' + 1 ≤ d) (hn1 : As.length = n) (hst : st = As.reverse ++ rest) (hcat : (rest.map fun v => v.category).sum ≤ 8) (hkc : kc ≤ R.cells ∧ ks ≤ R.slots) (k : ∀ (r : Int32) (u : S), post r u → V p l e R s m args below meth c nL G A Q (w1 u) kc ks (pc + 3) lv (.int r :: rest)) : V p l e R s m args below meth c nL G A Q w kc ks pc lv st := by
  subst hst
  refine fun H locs ls hP hD hS hl => va_calli (va_runS (As := As) (rest := rest) ⟨F.1, F.2.1, F.2.2.1, F.2.2.2.1, F.2.2.2.2.1⟩ (M0 H.size) (cs.use F rfl rfl rfl rfl hdd) (v_preS F hP hD) rfl hn1 hl.1 rfl (lv_room hcat) hd ⟨hkc.1, hkc.2⟩) hS (fun q _ h => (v_freeA F hD hS) q h) (v_freeA F hD hS) (fun r u t H1 locs1 ht hvm hw hB hz1 hk1 hS1 => ?_)
  exact k r u hw H1 locs1 ls (by rw [← ht]; exact hB.1) (hB.2.2.weaken (fun _ q _ h => (v_freeA F hD hS) q.1 h)) hS1 hl
theorem v_cVIE (F : FX p R s m args c cc own nL d G A) {idx ci : Nat} {C : String} {T : u_T} {N : Nat} {y : MethodName} {b : ByteArray} {mL n : Nat} {rt : Option FieldType} (cs : CSV own idx C y b mL rt n) (hd : decode cc pc = .ok (.invokevirtual idx, 3)) (q0 : Nat) {b0 : Nat} {fs : List Value} (he : w[q0]? = some (b0, .inr (ci, fs))) (hc : vwCl[ci]? = some (C, T, N)) {d' : Nat} {As rest : List Value} {S : Type} {w1 : S → va_W} {post : Int32 → S → Prop} (M0 : MI l G d' y b mL rt (.ref b0 :: As) [] w1 post) (hdd : d' + 1 ≤ d) (hn1 : As.length = n) (hst : st = As.reverse ++ .ref b0 :: rest) (hcat : (rest.map fun v => v.category).sum ≤ 8) (hkc : kc ≤ R.cells ∧ ks ≤ R.slots) (k : ∀ (r : Int32) (u : S), post r u → V p l e R s m args below meth c nL G A Q (w) kc ks (pc + 3) lv (.int r :: rest)) : V p l e R s m args below meth c nL G A Q w kc ks pc lv st := by
  subst hst
  refine fun H locs ls hP hD hS hl => va_calli (va_runV (As := As) (rest := rest) ⟨F.1, F.2.1, F.2.2.1, F.2.2.2.1, F.2.2.2.2.1⟩ (M0 H.size) (cs.use F rfl rfl rfl rfl hdd) (v_preV F hP v_nilP v_nil hc he) rfl hn1 hl.1 rfl (lv_room hcat) hd ⟨hkc.1, hkc.2⟩) hS (fun q _ h => (v_free0 F hS) q h) (v_free0 F hS) (fun r u t H1 locs1 ht hvm hw hB hz1 hk1 hS1 => ?_)
  exact k r u hw H1 locs1 ls (v_kept0 hP hk1) hD hS1 hl
theorem v_cSIE (F : FX p R s m args c cc own nL d G A) {idx : Nat} {y : MethodName} {b : ByteArray} {mL n : Nat} {rt : Option FieldType} (cs : CSS own idx y b mL rt n) (hd : decode cc pc = .ok (.invokestatic idx, 3)) {d' : Nat} {As rest : List Value} {S : Type} {w1 : S → va_W} {post : Int32 → S → Prop} (M0 : MI l G d' y b mL rt As [] w1 post) (hdd : d' + 1 ≤ d) (hn1 : As.length = n) (hst : st = As.reverse ++ rest) (hcat : (rest.map fun v => v.category).sum ≤ 8) (hkc : kc ≤ R.cells ∧ ks ≤ R.slots) (k : ∀ (r : Int32) (u : S), post r u → V p l e R s m args below meth c nL G A Q (w) kc ks (pc + 3) lv (.int r :: rest)) : V p l e R s m args below meth c nL G A Q w kc ks pc lv st := by
  subst hst
  refine fun H locs ls hP hD hS hl => va_calli (va_runS (As := As) (rest := rest) ⟨F.1, F.2.1, F.2.2.1, F.2.2.2.1, F.2.2.2.2.1⟩ (M0 H.size) (cs.use F rfl rfl rfl rfl hdd) (v_preS F v_nilP v_nil) rfl hn1 hl.1 rfl (lv_room hcat) hd ⟨hkc.1, hkc.2⟩) hS (fun q _ h => (v_free0 F hS) q h) (v_free0 F hS) (fun r u t H1 locs1 ht hvm hw hB hz1 hk1 hS1 => ?_)
  exact k r u hw H1 locs1 ls (v_kept0 hP hk1) hD hS1 hl
theorem v_cVIS (F : FX p R s m args c cc own nL d G A) {idx ci : Nat} {C : String} {T : u_T} {N : Nat} {y : MethodName} {b : ByteArray} {mL n : Nat} {rt : Option FieldType} (cs : CSV own idx C y b mL rt n) (hd : decode cc pc = .ok (.invokevirtual idx, 3)) (q0 : Nat) {b0 : Nat} {fs : List Value} (he : w[q0]? = some (b0, .inr (ci, fs))) (hc : vwCl[ci]? = some (C, T, N)) {d' : Nat} {As rest : List Value} (isC isR : List Nat) {wc wr : va_W} (hC : isC.map (fun i => w[i]?) = wc.map some) (hCf : isC.filterMap (fun i => w[i]?) = wc) (hCn : va_nd isC = true) (hR : isR.map (fun i => w[i]?) = wr.map some) (hn : va_nd isR = true) (hdis : ∀ i ∈ isR, i ∉ isC) {S : Type} {w1 : S → va_W} {post : Int32 → S → Prop} (M0 : MI l G d' y b mL rt (.ref b0 :: As) wc w1 post) (hdd : d' + 1 ≤ d) (hn1 : As.length = n) (hst : st = As.reverse ++ .ref b0 :: rest) (hcat : (rest.map fun v => v.category).sum ≤ 8) (hkc : kc ≤ R.cells ∧ ks ≤ R.slots) (k : ∀ (r : Int32) (u : S), post r u → V p l e R s m args below meth c nL G A Q (wr ++ w1 u) kc ks (pc + 3) lv (.int r :: rest)) : V p l e R s m args below meth c nL G A Q w kc ks pc lv st := by
  subst hst
  refine fun H locs ls hP hD hS hl => va_calli (va_runV (As := As) (rest := rest) ⟨F.1, F.2.1, F.2.2.1, F.2.2.2.1, F.2.2.2.2.1⟩ (M0 H.size) (cs.use F rfl rfl rfl rfl hdd) (v_preV F hP (hP.sub isC hCf) (hD.sub isC hCn hC) hc he) rfl hn1 hl.1 rfl (lv_room hcat) hd ⟨hkc.1, hkc.2⟩) hS (fun q _ h => (va_free hD hS F.2.2.2.2.2.1 isC hC) q h) (va_free hD hS F.2.2.2.2.2.1 isC hC) (fun r u t H1 locs1 ht hvm hw hB hz1 hk1 hS1 => ?_)
  exact (fun hj => k r u hw H1 locs1 ls hj.1 hj.2 hS1 hl) (va_join hP hD isC isR hC hR hn hdis hk1 (va_free hD hS F.2.2.2.2.2.1 isC hC) (by rw [← ht]; exact hB.1) hB.2.2)
theorem v_cSIS (F : FX p R s m args c cc own nL d G A) {idx : Nat} {y : MethodName} {b : ByteArray} {mL n : Nat} {rt : Option FieldType} (cs : CSS own idx y b mL rt n) (hd : decode cc pc = .ok (.invokestatic idx, 3)) {d' : Nat} {As rest : List Value} (isC isR : List Nat) {wc wr : va_W} (hC : isC.map (fun i => w[i]?) = wc.map some) (hCf : isC.filterMap (fun i => w[i]?) = wc) (hCn : va_nd isC = true) (hR : isR.map (fun i => w[i]?) = wr.map some) (hn : va_nd isR = true) (hdis : ∀ i ∈ isR, i ∉ isC) {S : Type} {w1 : S → va_W} {post : Int32 → S → Prop} (M0 : MI l G d' y b mL rt As wc w1 post) (hdd : d' + 1 ≤ d) (hn1 : As.length = n) (hst : st = As.reverse ++ rest) (hcat : (rest.map fun v => v.category).sum ≤ 8) (hkc : kc ≤ R.cells ∧ ks ≤ R.slots) (k : ∀ (r : Int32) (u : S), post r u → V p l e R s m args below meth c nL G A Q (wr ++ w1 u) kc ks (pc + 3) lv (.int r :: rest)) : V p l e R s m args below meth c nL G A Q w kc ks pc lv st := by
  subst hst
  refine fun H locs ls hP hD hS hl => va_calli (va_runS (As := As) (rest := rest) ⟨F.1, F.2.1, F.2.2.1, F.2.2.2.1, F.2.2.2.2.1⟩ (M0 H.size) (cs.use F rfl rfl rfl rfl hdd) (v_preS F (hP.sub isC hCf) (hD.sub isC hCn hC)) rfl hn1 hl.1 rfl (lv_room hcat) hd ⟨hkc.1, hkc.2⟩) hS (fun q _ h => (va_free hD hS F.2.2.2.2.2.1 isC hC) q h) (va_free hD hS F.2.2.2.2.2.1 isC hC) (fun r u t H1 locs1 ht hvm hw hB hz1 hk1 hS1 => ?_)
  exact (fun hj => k r u hw H1 locs1 ls hj.1 hj.2 hS1 hl) (va_join hP hD isC isR hC hR hn hdis hk1 (va_free hD hS F.2.2.2.2.2.1 isC hC) (by rw [← ht]; exact hB.1) hB.2.2)
theorem v_cVLF (F : FX p R s m args c cc own nL d G A) {idx ci : Nat} {C : String} {T : u_T} {N : Nat} {y : MethodName} {b : ByteArray} {mL n : Nat} {rt : Option FieldType} (cs : CSV own idx C y b mL rt n) (hd : decode cc pc = .ok (.invokevirtual idx, 3)) (q0 : Nat) {b0 : Nat} {fs : List Value} (he : w[q0]? = some (b0, .inr (ci, fs))) (hc : vwCl[ci]? = some (C, T, N)) {d' : Nat} {As rest : List Value} {S : Type} {w1 : S → va_W} {post : Int64 → S → Prop} (M0 : ML l G d' y b mL rt (.ref b0 :: As) w w1 post) (hdd : d' + 1 ≤ d) (hn1 : As.length = n) (hst : st = As.reverse ++ .ref b0 :: rest) (hcat : (rest.map fun v => v.category).sum ≤ 8) (hkc : kc ≤ R.cells ∧ ks ≤ R.slots) (k : ∀ (r : Int64) (u : S), post r u → V p l e R s m args below meth c nL G A Q (w1 u) kc ks (pc + 3) lv (.long r :: rest)) : V p l e R s m args below meth c nL G A Q w kc ks pc lv st := by
  subst hst
  refine fun H locs ls hP hD hS hl => va_calll (va_runV (As := As) (rest := rest) ⟨F.1, F.2.1, F.2.2.1, F.2.2.2.1, F.2.2.2.2.1⟩ (M0 H.size) (cs.use F rfl rfl rfl rfl hdd) (v_preV F hP hP hD hc he) rfl hn1 hl.1 rfl (lv_room hcat) hd ⟨hkc.1, hkc.2⟩) hS (fun q _ h => (v_freeA F hD hS) q h) (v_freeA F hD hS) (fun r u t H1 locs1 ht hvm hw hB hz1 hk1 hS1 => ?_)
  exact k r u hw H1 locs1 ls (by rw [← ht]; exact hB.1) (hB.2.2.weaken (fun _ q _ h => (v_freeA F hD hS) q.1 h)) hS1 hl
theorem v_cSLF (F : FX p R s m args c cc own nL d G A) {idx : Nat} {y : MethodName} {b : ByteArray} {mL n : Nat} {rt : Option FieldType} (cs : CSS own idx y b mL rt n) (hd : decode cc pc = .ok (.invokestatic idx, 3)) {d' : Nat} {As rest : List Value} {S : Type} {w1 : S → va_W} {post : Int64 → S → Prop} (M0 : ML l G d' y b mL rt As w w1 post) (hdd : d' + 1 ≤ d) (hn1 : As.length = n) (hst : st = As.reverse ++ rest) (hcat : (rest.map fun v => v.category).sum ≤ 8) (hkc : kc ≤ R.cells ∧ ks ≤ R.slots) (k : ∀ (r : Int64) (u : S), post r u → V p l e R s m args below meth c nL G A Q (w1 u) kc ks (pc + 3) lv (.long r :: rest)) : V p l e R s m args below meth c nL G A Q w kc ks pc lv st := by
  subst hst
  refine fun H locs ls hP hD hS hl => va_calll (va_runS (As := As) (rest := rest) ⟨F.1, F.2.1, F.2.2.1, F.2.2.2.1, F.2.2.2.2.1⟩ (M0 H.size) (cs.use F rfl rfl rfl rfl hdd) (v_preS F hP hD) rfl hn1 hl.1 rfl (lv_room hcat) hd ⟨hkc.1, hkc.2⟩) hS (fun q _ h => (v_freeA F hD hS) q h) (v_freeA F hD hS) (fun r u t H1 locs1 ht hvm hw hB hz1 hk1 hS1 => ?_)
  exact k r u hw H1 locs1 ls (by rw [← ht]; exact hB.1) (hB.2.2.weaken (fun _ q _ h => (v_freeA F hD hS) q.1 h)) hS1 hl
theorem v_cVLE (F : FX p R s m args c cc own nL d G A) {idx ci : Nat} {C : String} {T : u_T} {N : Nat} {y : MethodName} {b : ByteArray} {mL n : Nat} {rt : Option FieldType} (cs : CSV own idx C y b mL rt n) (hd : decode cc pc = .ok (.invokevirtual idx, 3)) (q0 : Nat) {b0 : Nat} {fs : List Value} (he : w[q0]? = some (b0, .inr (ci, fs))) (hc : vwCl[ci]? = some (C, T, N)) {d' : Nat} {As rest : List Value} {S : Type} {w1 : S → va_W} {post : Int64 → S → Prop} (M0 : ML l G d' y b mL rt (.ref b0 :: As) [] w1 post) (hdd : d' + 1 ≤ d) (hn1 : As.length = n) (hst : st = As.reverse ++ .ref b0 :: rest) (hcat : (rest.map fun v => v.category).sum ≤ 8) (hkc : kc ≤ R.cells ∧ ks ≤ R.slots) (k : ∀ (r : Int64) (u : S), post r u → V p l e R s m args below meth c nL G A Q (w) kc ks (pc + 3) lv (.long r :: rest)) : V p l e R s m args below meth c nL G A Q w kc ks pc lv st := by
  subst hst
  refine fun H locs ls hP hD hS hl => va_calll (va_runV (As := As) (rest := rest) ⟨F.1, F.2.1, F.2.2.1, F.2.2.2.1, F.2.2.2.2.1⟩ (M0 H.size) (cs.use F rfl rfl rfl rfl hdd) (v_preV F hP v_nilP v_nil hc he) rfl hn1 hl.1 rfl (lv_room hcat) hd ⟨hkc.1, hkc.2⟩) hS (fun q _ h => (v_free0 F hS) q h) (v_free0 F hS) (fun r u t H1 locs1 ht hvm hw hB hz1 hk1 hS1 => ?_)
  exact k r u hw H1 locs1 ls (v_kept0 hP hk1) hD hS1 hl
theorem v_cSLE (F : FX p R s m args c cc own nL d G A) {idx : Nat} {y : MethodName} {b : ByteArray} {mL n : Nat} {rt : Option FieldType} (cs : CSS own idx y b mL rt n) (hd : decode cc pc = .ok (.invokestatic idx, 3)) {d' : Nat} {As rest : List Value} {S : Type} {w1 : S → va_W} {post : Int64 → S → Prop} (M0 : ML l G d' y b mL rt As [] w1 post) (hdd : d' + 1 ≤ d) (hn1 : As.length = n) (hst : st = As.reverse ++ rest) (hcat : (rest.map fun v => v.category).sum ≤ 8) (hkc : kc ≤ R.cells ∧ ks ≤ R.slots) (k : ∀ (r : Int64) (u : S), post r u → V p l e R s m args below meth c nL G A Q (w) kc ks (pc + 3) lv (.long r :: rest)) : V p l e R s m args below meth c nL G A Q w kc ks pc lv st := by
  subst hst
  refine fun H locs ls hP hD hS hl => va_calll (va_runS (As := As) (rest := rest) ⟨F.1, F.2.1, F.2.2.1, F.2.2.2.1, F.2.2.2.2.1⟩ (M0 H.size) (cs.use F rfl rfl rfl rfl hdd) (v_preS F v_nilP v_nil) rfl hn1 hl.1 rfl (lv_room hcat) hd ⟨hkc.1, hkc.2⟩) hS (fun q _ h => (v_free0 F hS) q h) (v_free0 F hS) (fun r u t H1 locs1 ht hvm hw hB hz1 hk1 hS1 => ?_)
  exact k r u hw H1 locs1 ls (v_kept0 hP hk1) hD hS1 hl
theorem v_cVLS (F : FX p R s m args c cc own nL d G A) {idx ci : Nat} {C : String} {T : u_T} {N : Nat} {y : MethodName} {b : ByteArray} {mL n : Nat} {rt : Option FieldType} (cs : CSV own idx C y b mL rt n) (hd : decode cc pc = .ok (.invokevirtual idx, 3)) (q0 : Nat) {b0 : Nat} {fs : List Value} (he : w[q0]? = some (b0, .inr (ci, fs))) (hc : vwCl[ci]? = some (C, T, N)) {d' : Nat} {As rest : List Value} (isC isR : List Nat) {wc wr : va_W} (hC : isC.map (fun i => w[i]?) = wc.map some) (hCf : isC.filterMap (fun i => w[i]?) = wc) (hCn : va_nd isC = true) (hR : isR.map (fun i => w[i]?) = wr.map some) (hn : va_nd isR = true) (hdis : ∀ i ∈ isR, i ∉ isC) {S : Type} {w1 : S → va_W} {post : Int64 → S → Prop} (M0 : ML l G d' y b mL rt (.ref b0 :: As) wc w1 post) (hdd : d' + 1 ≤ d) (hn1 : As.length = n) (hst : st = As.reverse ++ .ref b0 :: rest) (hcat : (rest.map fun v => v.category).sum ≤ 8) (hkc : kc ≤ R.cells ∧ ks ≤ R.slots) (k : ∀ (r : Int64) (u : S), post r u → V p l e R s m args below meth c nL G A Q (wr ++ w1 u) kc ks (pc + 3) lv (.long r :: rest)) : V p l e R s m args below meth c nL G A Q w kc ks pc lv st := by
  subst hst
  refine fun H locs ls hP hD hS hl => va_calll (va_runV (As := As) (rest := rest) ⟨F.1, F.2.1, F.2.2.1, F.2.2.2.1, F.2.2.2.2.1⟩ (M0 H.size) (cs.use F rfl rfl rfl rfl hdd) (v_preV F hP (hP.sub isC hCf) (hD.sub isC hCn hC) hc he) rfl hn1 hl.1 rfl (lv_room hcat) hd ⟨hkc.1, hkc.2⟩) hS (fun q _ h => (va_free hD hS F.2.2.2.2.2.1 isC hC) q h) (va_free hD hS F.2.2.2.2.2.1 isC hC) (fun r u t H1 locs1 ht hvm hw hB hz1 hk1 hS1 => ?_)
  exact (fun hj => k r u hw H1 locs1 ls hj.1 hj.2 hS1 hl) (va_join hP hD isC isR hC hR hn hdis hk1 (va_free hD hS F.2.2.2.2.2.1 isC hC) (by rw [← ht]; exact hB.1) hB.2.2)
theorem v_cSLS (F : FX p R s m args c cc own nL d G A) {idx : Nat} {y : MethodName} {b : ByteArray} {mL n : Nat} {rt : Option FieldType} (cs : CSS own idx y b mL rt n) (hd : decode cc pc = .ok (.invokestatic idx, 3)) {d' : Nat} {As rest : List Value} (isC isR : List Nat) {wc wr : va_W} (hC : isC.map (fun i => w[i]?) = wc.map some) (hCf : isC.filterMap (fun i => w[i]?) = wc) (hCn : va_nd isC = true) (hR : isR.map (fun i => w[i]?) = wr.map some) (hn : va_nd isR = true) (hdis : ∀ i ∈ isR, i ∉ isC) {S : Type} {w1 : S → va_W} {post : Int64 → S → Prop} (M0 : ML l G d' y b mL rt As wc w1 post) (hdd : d' + 1 ≤ d) (hn1 : As.length = n) (hst : st = As.reverse ++ rest) (hcat : (rest.map fun v => v.category).sum ≤ 8) (hkc : kc ≤ R.cells ∧ ks ≤ R.slots) (k : ∀ (r : Int64) (u : S), post r u → V p l e R s m args below meth c nL G A Q (wr ++ w1 u) kc ks (pc + 3) lv (.long r :: rest)) : V p l e R s m args below meth c nL G A Q w kc ks pc lv st := by
  subst hst
  refine fun H locs ls hP hD hS hl => va_calll (va_runS (As := As) (rest := rest) ⟨F.1, F.2.1, F.2.2.1, F.2.2.2.1, F.2.2.2.2.1⟩ (M0 H.size) (cs.use F rfl rfl rfl rfl hdd) (v_preS F (hP.sub isC hCf) (hD.sub isC hCn hC)) rfl hn1 hl.1 rfl (lv_room hcat) hd ⟨hkc.1, hkc.2⟩) hS (fun q _ h => (va_free hD hS F.2.2.2.2.2.1 isC hC) q h) (va_free hD hS F.2.2.2.2.2.1 isC hC) (fun r u t H1 locs1 ht hvm hw hB hz1 hk1 hS1 => ?_)
  exact (fun hj => k r u hw H1 locs1 ls hj.1 hj.2 hS1 hl) (va_join hP hD isC isR hC hR hn hdis hk1 (va_free hD hS F.2.2.2.2.2.1 isC hC) (by rw [← ht]; exact hB.1) hB.2.2)
theorem v_cVDF (F : FX p R s m args c cc own nL d G A) {idx ci : Nat} {C : String} {T : u_T} {N : Nat} {y : MethodName} {b : ByteArray} {mL n : Nat} {rt : Option FieldType} (cs : CSV own idx C y b mL rt n) (hd : decode cc pc = .ok (.invokevirtual idx, 3)) (q0 : Nat) {b0 : Nat} {fs : List Value} (he : w[q0]? = some (b0, .inr (ci, fs))) (hc : vwCl[ci]? = some (C, T, N)) {d' : Nat} {As rest : List Value} {S : Type} {w1 : S → va_W} {post : UInt64 → S → Prop} (M0 : MD l G d' y b mL rt (.ref b0 :: As) w w1 post) (hdd : d' + 1 ≤ d) (hn1 : As.length = n) (hst : st = As.reverse ++ .ref b0 :: rest) (hcat : (rest.map fun v => v.category).sum ≤ 8) (hkc : kc ≤ R.cells ∧ ks ≤ R.slots) (k : ∀ (r : UInt64) (u : S), post r u → V p l e R s m args below meth c nL G A Q (w1 u) kc ks (pc + 3) lv (.double r :: rest)) : V p l e R s m args below meth c nL G A Q w kc ks pc lv st := by
  subst hst
  refine fun H locs ls hP hD hS hl => va_calld (va_runV (As := As) (rest := rest) ⟨F.1, F.2.1, F.2.2.1, F.2.2.2.1, F.2.2.2.2.1⟩ (M0 H.size) (cs.use F rfl rfl rfl rfl hdd) (v_preV F hP hP hD hc he) rfl hn1 hl.1 rfl (lv_room hcat) hd ⟨hkc.1, hkc.2⟩) hS (fun q _ h => (v_freeA F hD hS) q h) (v_freeA F hD hS) (fun r u t H1 locs1 ht hvm hw hB hz1 hk1 hS1 => ?_)
  exact k r u hw H1 locs1 ls (by rw [← ht]; exact hB.1) (hB.2.2.weaken (fun _ q _ h => (v_freeA F hD hS) q.1 h)) hS1 hl
theorem v_cSDF (F : FX p R s m args c cc own nL d G A) {idx : Nat} {y : MethodName} {b : ByteArray} {mL n : Nat} {rt : Option FieldType} (cs : CSS own idx y b mL rt n) (hd : decode cc pc = .ok (.invokestatic idx, 3)) {d' : Nat} {As rest : List Value} {S : Type} {w1 : S → va_W} {post : UInt64 → S → Prop} (M0 : MD l G d' y b mL rt As w w1 post) (hdd : d' + 1 ≤ d) (hn1 : As.length = n) (hst : st = As.reverse ++ rest) (hcat : (rest.map fun v => v.category).sum ≤ 8) (hkc : kc ≤ R.cells ∧ ks ≤ R.slots) (k : ∀ (r : UInt64) (u : S), post r u → V p l e R s m args below meth c nL G A Q (w1 u) kc ks (pc + 3) lv (.double r :: rest)) : V p l e R s m args below meth c nL G A Q w kc ks pc lv st := by
  subst hst
  refine fun H locs ls hP hD hS hl => va_calld (va_runS (As := As) (rest := rest) ⟨F.1, F.2.1, F.2.2.1, F.2.2.2.1, F.2.2.2.2.1⟩ (M0 H.size) (cs.use F rfl rfl rfl rfl hdd) (v_preS F hP hD) rfl hn1 hl.1 rfl (lv_room hcat) hd ⟨hkc.1, hkc.2⟩) hS (fun q _ h => (v_freeA F hD hS) q h) (v_freeA F hD hS) (fun r u t H1 locs1 ht hvm hw hB hz1 hk1 hS1 => ?_)
  exact k r u hw H1 locs1 ls (by rw [← ht]; exact hB.1) (hB.2.2.weaken (fun _ q _ h => (v_freeA F hD hS) q.1 h)) hS1 hl
theorem v_cVDE (F : FX p R s m args c cc own nL d G A) {idx ci : Nat} {C : String} {T : u_T} {N : Nat} {y : MethodName} {b : ByteArray} {mL n : Nat} {rt : Option FieldType} (cs : CSV own idx C y b mL rt n) (hd : decode cc pc = .ok (.invokevirtual idx, 3)) (q0 : Nat) {b0 : Nat} {fs : List Value} (he : w[q0]? = some (b0, .inr (ci, fs))) (hc : vwCl[ci]? = some (C, T, N)) {d' : Nat} {As rest : List Value} {S : Type} {w1 : S → va_W} {post : UInt64 → S → Prop} (M0 : MD l G d' y b mL rt (.ref b0 :: As) [] w1 post) (hdd : d' + 1 ≤ d) (hn1 : As.length = n) (hst : st = As.reverse ++ .ref b0 :: rest) (hcat : (rest.map fun v => v.category).sum ≤ 8) (hkc : kc ≤ R.cells ∧ ks ≤ R.slots) (k : ∀ (r : UInt64) (u : S), post r u → V p l e R s m args below meth c nL G A Q (w) kc ks (pc + 3) lv (.double r :: rest)) : V p l e R s m args below meth c nL G A Q w kc ks pc lv st := by
  subst hst
  refine fun H locs ls hP hD hS hl => va_calld (va_runV (As := As) (rest := rest) ⟨F.1, F.2.1, F.2.2.1, F.2.2.2.1, F.2.2.2.2.1⟩ (M0 H.size) (cs.use F rfl rfl rfl rfl hdd) (v_preV F hP v_nilP v_nil hc he) rfl hn1 hl.1 rfl (lv_room hcat) hd ⟨hkc.1, hkc.2⟩) hS (fun q _ h => (v_free0 F hS) q h) (v_free0 F hS) (fun r u t H1 locs1 ht hvm hw hB hz1 hk1 hS1 => ?_)
  exact k r u hw H1 locs1 ls (v_kept0 hP hk1) hD hS1 hl
theorem v_cSDE (F : FX p R s m args c cc own nL d G A) {idx : Nat} {y : MethodName} {b : ByteArray} {mL n : Nat} {rt : Option FieldType} (cs : CSS own idx y b mL rt n) (hd : decode cc pc = .ok (.invokestatic idx, 3)) {d' : Nat} {As rest : List Value} {S : Type} {w1 : S → va_W} {post : UInt64 → S → Prop} (M0 : MD l G d' y b mL rt As [] w1 post) (hdd : d' + 1 ≤ d) (hn1 : As.length = n) (hst : st = As.reverse ++ rest) (hcat : (rest.map fun v => v.category).sum ≤ 8) (hkc : kc ≤ R.cells ∧ ks ≤ R.slots) (k : ∀ (r : UInt64) (u : S), post r u → V p l e R s m args below meth c nL G A Q (w) kc ks (pc + 3) lv (.double r :: rest)) : V p l e R s m args below meth c nL G A Q w kc ks pc lv st := by
  subst hst
  refine fun H locs ls hP hD hS hl => va_calld (va_runS (As := As) (rest := rest) ⟨F.1, F.2.1, F.2.2.1, F.2.2.2.1, F.2.2.2.2.1⟩ (M0 H.size) (cs.use F rfl rfl rfl rfl hdd) (v_preS F v_nilP v_nil) rfl hn1 hl.1 rfl (lv_room hcat) hd ⟨hkc.1, hkc.2⟩) hS (fun q _ h => (v_free0 F hS) q h) (v_free0 F hS) (fun r u t H1 locs1 ht hvm hw hB hz1 hk1 hS1 => ?_)
  exact k r u hw H1 locs1 ls (v_kept0 hP hk1) hD hS1 hl
theorem v_cVDS (F : FX p R s m args c cc own nL d G A) {idx ci : Nat} {C : String} {T : u_T} {N : Nat} {y : MethodName} {b : ByteArray} {mL n : Nat} {rt : Option FieldType} (cs : CSV own idx C y b mL rt n) (hd : decode cc pc = .ok (.invokevirtual idx, 3)) (q0 : Nat) {b0 : Nat} {fs : List Value} (he : w[q0]? = some (b0, .inr (ci, fs))) (hc : vwCl[ci]? = some (C, T, N)) {d' : Nat} {As rest : List Value} (isC isR : List Nat) {wc wr : va_W} (hC : isC.map (fun i => w[i]?) = wc.map some) (hCf : isC.filterMap (fun i => w[i]?) = wc) (hCn : va_nd isC = true) (hR : isR.map (fun i => w[i]?) = wr.map some) (hn : va_nd isR = true) (hdis : ∀ i ∈ isR, i ∉ isC) {S : Type} {w1 : S → va_W} {post : UInt64 → S → Prop} (M0 : MD l G d' y b mL rt (.ref b0 :: As) wc w1 post) (hdd : d' + 1 ≤ d) (hn1 : As.length = n) (hst : st = As.reverse ++ .ref b0 :: rest) (hcat : (rest.map fun v => v.category).sum ≤ 8) (hkc : kc ≤ R.cells ∧ ks ≤ R.slots) (k : ∀ (r : UInt64) (u : S), post r u → V p l e R s m args below meth c nL G A Q (wr ++ w1 u) kc ks (pc + 3) lv (.double r :: rest)) : V p l e R s m args below meth c nL G A Q w kc ks pc lv st := by
  subst hst
  refine fun H locs ls hP hD hS hl => va_calld (va_runV (As := As) (rest := rest) ⟨F.1, F.2.1, F.2.2.1, F.2.2.2.1, F.2.2.2.2.1⟩ (M0 H.size) (cs.use F rfl rfl rfl rfl hdd) (v_preV F hP (hP.sub isC hCf) (hD.sub isC hCn hC) hc he) rfl hn1 hl.1 rfl (lv_room hcat) hd ⟨hkc.1, hkc.2⟩) hS (fun q _ h => (va_free hD hS F.2.2.2.2.2.1 isC hC) q h) (va_free hD hS F.2.2.2.2.2.1 isC hC) (fun r u t H1 locs1 ht hvm hw hB hz1 hk1 hS1 => ?_)
  exact (fun hj => k r u hw H1 locs1 ls hj.1 hj.2 hS1 hl) (va_join hP hD isC isR hC hR hn hdis hk1 (va_free hD hS F.2.2.2.2.2.1 isC hC) (by rw [← ht]; exact hB.1) hB.2.2)
theorem v_cSDS (F : FX p R s m args c cc own nL d G A) {idx : Nat} {y : MethodName} {b : ByteArray} {mL n : Nat} {rt : Option FieldType} (cs : CSS own idx y b mL rt n) (hd : decode cc pc = .ok (.invokestatic idx, 3)) {d' : Nat} {As rest : List Value} (isC isR : List Nat) {wc wr : va_W} (hC : isC.map (fun i => w[i]?) = wc.map some) (hCf : isC.filterMap (fun i => w[i]?) = wc) (hCn : va_nd isC = true) (hR : isR.map (fun i => w[i]?) = wr.map some) (hn : va_nd isR = true) (hdis : ∀ i ∈ isR, i ∉ isC) {S : Type} {w1 : S → va_W} {post : UInt64 → S → Prop} (M0 : MD l G d' y b mL rt As wc w1 post) (hdd : d' + 1 ≤ d) (hn1 : As.length = n) (hst : st = As.reverse ++ rest) (hcat : (rest.map fun v => v.category).sum ≤ 8) (hkc : kc ≤ R.cells ∧ ks ≤ R.slots) (k : ∀ (r : UInt64) (u : S), post r u → V p l e R s m args below meth c nL G A Q (wr ++ w1 u) kc ks (pc + 3) lv (.double r :: rest)) : V p l e R s m args below meth c nL G A Q w kc ks pc lv st := by
  subst hst
  refine fun H locs ls hP hD hS hl => va_calld (va_runS (As := As) (rest := rest) ⟨F.1, F.2.1, F.2.2.1, F.2.2.2.1, F.2.2.2.2.1⟩ (M0 H.size) (cs.use F rfl rfl rfl rfl hdd) (v_preS F (hP.sub isC hCf) (hD.sub isC hCn hC)) rfl hn1 hl.1 rfl (lv_room hcat) hd ⟨hkc.1, hkc.2⟩) hS (fun q _ h => (va_free hD hS F.2.2.2.2.2.1 isC hC) q h) (va_free hD hS F.2.2.2.2.2.1 isC hC) (fun r u t H1 locs1 ht hvm hw hB hz1 hk1 hS1 => ?_)
  exact (fun hj => k r u hw H1 locs1 ls hj.1 hj.2 hS1 hl) (va_join hP hD isC isR hC hR hn hdis hk1 (va_free hD hS F.2.2.2.2.2.1 isC hC) (by rw [← ht]; exact hB.1) hB.2.2)
theorem v_cVVF (F : FX p R s m args c cc own nL d G A) {idx ci : Nat} {C : String} {T : u_T} {N : Nat} {y : MethodName} {b : ByteArray} {mL n : Nat} {rt : Option FieldType} (cs : CSV own idx C y b mL rt n) (hd : decode cc pc = .ok (.invokevirtual idx, 3)) (q0 : Nat) {b0 : Nat} {fs : List Value} (he : w[q0]? = some (b0, .inr (ci, fs))) (hc : vwCl[ci]? = some (C, T, N)) {d' : Nat} {As rest : List Value} {S : Type} {w1 : S → va_W} {post : S → Prop} (M0 : MV l G d' y b mL rt (.ref b0 :: As) w w1 post) (hdd : d' + 1 ≤ d) (hn1 : As.length = n) (hst : st = As.reverse ++ .ref b0 :: rest) (hcat : (rest.map fun v => v.category).sum ≤ 8) (hkc : kc ≤ R.cells ∧ ks ≤ R.slots) (k : ∀ (u : S), post u → V p l e R s m args below meth c nL G A Q (w1 u) kc ks (pc + 3) lv (rest)) : V p l e R s m args below meth c nL G A Q w kc ks pc lv st := by
  subst hst
  refine fun H locs ls hP hD hS hl => va_callv (va_runV (As := As) (rest := rest) ⟨F.1, F.2.1, F.2.2.1, F.2.2.2.1, F.2.2.2.2.1⟩ (M0 H.size) (cs.use F rfl rfl rfl rfl hdd) (v_preV F hP hP hD hc he) rfl hn1 hl.1 rfl (lv_room hcat) hd ⟨hkc.1, hkc.2⟩) hS (fun q _ h => (v_freeA F hD hS) q h) (v_freeA F hD hS) (fun u t H1 locs1 ht hvm hw hB hz1 hk1 hS1 => ?_)
  exact k u hw H1 locs1 ls (by rw [← ht]; exact hB.1) (hB.2.2.weaken (fun _ q _ h => (v_freeA F hD hS) q.1 h)) hS1 hl
theorem v_cSVF (F : FX p R s m args c cc own nL d G A) {idx : Nat} {y : MethodName} {b : ByteArray} {mL n : Nat} {rt : Option FieldType} (cs : CSS own idx y b mL rt n) (hd : decode cc pc = .ok (.invokestatic idx, 3)) {d' : Nat} {As rest : List Value} {S : Type} {w1 : S → va_W} {post : S → Prop} (M0 : MV l G d' y b mL rt As w w1 post) (hdd : d' + 1 ≤ d) (hn1 : As.length = n) (hst : st = As.reverse ++ rest) (hcat : (rest.map fun v => v.category).sum ≤ 8) (hkc : kc ≤ R.cells ∧ ks ≤ R.slots) (k : ∀ (u : S), post u → V p l e R s m args below meth c nL G A Q (w1 u) kc ks (pc + 3) lv (rest)) : V p l e R s m args below meth c nL G A Q w kc ks pc lv st := by
  subst hst
  refine fun H locs ls hP hD hS hl => va_callv (va_runS (As := As) (rest := rest) ⟨F.1, F.2.1, F.2.2.1, F.2.2.2.1, F.2.2.2.2.1⟩ (M0 H.size) (cs.use F rfl rfl rfl rfl hdd) (v_preS F hP hD) rfl hn1 hl.1 rfl (lv_room hcat) hd ⟨hkc.1, hkc.2⟩) hS (fun q _ h => (v_freeA F hD hS) q h) (v_freeA F hD hS) (fun u t H1 locs1 ht hvm hw hB hz1 hk1 hS1 => ?_)
  exact k u hw H1 locs1 ls (by rw [← ht]; exact hB.1) (hB.2.2.weaken (fun _ q _ h => (v_freeA F hD hS) q.1 h)) hS1 hl
theorem v_cVVE (F : FX p R s m args c cc own nL d G A) {idx ci : Nat} {C : String} {T : u_T} {N : Nat} {y : MethodName} {b : ByteArray} {mL n : Nat} {rt : Option FieldType} (cs : CSV own idx C y b mL rt n) (hd : decode cc pc = .ok (.invokevirtual idx, 3)) (q0 : Nat) {b0 : Nat} {fs : List Value} (he : w[q0]? = some (b0, .inr (ci, fs))) (hc : vwCl[ci]? = some (C, T, N)) {d' : Nat} {As rest : List Value} {S : Type} {w1 : S → va_W} {post : S → Prop} (M0 : MV l G d' y b mL rt (.ref b0 :: As) [] w1 post) (hdd : d' + 1 ≤ d) (hn1 : As.length = n) (hst : st = As.reverse ++ .ref b0 :: rest) (hcat : (rest.map fun v => v.category).sum ≤ 8) (hkc : kc ≤ R.cells ∧ ks ≤ R.slots) (k : ∀ (u : S), post u → V p l e R s m args below meth c nL G A Q (w) kc ks (pc + 3) lv (rest)) : V p l e R s m args below meth c nL G A Q w kc ks pc lv st := by
  subst hst
  refine fun H locs ls hP hD hS hl => va_callv (va_runV (As := As) (rest := rest) ⟨F.1, F.2.1, F.2.2.1, F.2.2.2.1, F.2.2.2.2.1⟩ (M0 H.size) (cs.use F rfl rfl rfl rfl hdd) (v_preV F hP v_nilP v_nil hc he) rfl hn1 hl.1 rfl (lv_room hcat) hd ⟨hkc.1, hkc.2⟩) hS (fun q _ h => (v_free0 F hS) q h) (v_free0 F hS) (fun u t H1 locs1 ht hvm hw hB hz1 hk1 hS1 => ?_)
  exact k u hw H1 locs1 ls (v_kept0 hP hk1) hD hS1 hl
theorem v_cSVE (F : FX p R s m args c cc own nL d G A) {idx : Nat} {y : MethodName} {b : ByteArray} {mL n : Nat} {rt : Option FieldType} (cs : CSS own idx y b mL rt n) (hd : decode cc pc = .ok (.invokestatic idx, 3)) {d' : Nat} {As rest : List Value} {S : Type} {w1 : S → va_W} {post : S → Prop} (M0 : MV l G d' y b mL rt As [] w1 post) (hdd : d' + 1 ≤ d) (hn1 : As.length = n) (hst : st = As.reverse ++ rest) (hcat : (rest.map fun v => v.category).sum ≤ 8) (hkc : kc ≤ R.cells ∧ ks ≤ R.slots) (k : ∀ (u : S), post u → V p l e R s m args below meth c nL G A Q (w) kc ks (pc + 3) lv (rest)) : V p l e R s m args below meth c nL G A Q w kc ks pc lv st := by
  subst hst
  refine fun H locs ls hP hD hS hl => va_callv (va_runS (As := As) (rest := rest) ⟨F.1, F.2.1, F.2.2.1, F.2.2.2.1, F.2.2.2.2.1⟩ (M0 H.size) (cs.use F rfl rfl rfl rfl hdd) (v_preS F v_nilP v_nil) rfl hn1 hl.1 rfl (lv_room hcat) hd ⟨hkc.1, hkc.2⟩) hS (fun q _ h => (v_free0 F hS) q h) (v_free0 F hS) (fun u t H1 locs1 ht hvm hw hB hz1 hk1 hS1 => ?_)
  exact k u hw H1 locs1 ls (v_kept0 hP hk1) hD hS1 hl
theorem v_cVVS (F : FX p R s m args c cc own nL d G A) {idx ci : Nat} {C : String} {T : u_T} {N : Nat} {y : MethodName} {b : ByteArray} {mL n : Nat} {rt : Option FieldType} (cs : CSV own idx C y b mL rt n) (hd : decode cc pc = .ok (.invokevirtual idx, 3)) (q0 : Nat) {b0 : Nat} {fs : List Value} (he : w[q0]? = some (b0, .inr (ci, fs))) (hc : vwCl[ci]? = some (C, T, N)) {d' : Nat} {As rest : List Value} (isC isR : List Nat) {wc wr : va_W} (hC : isC.map (fun i => w[i]?) = wc.map some) (hCf : isC.filterMap (fun i => w[i]?) = wc) (hCn : va_nd isC = true) (hR : isR.map (fun i => w[i]?) = wr.map some) (hn : va_nd isR = true) (hdis : ∀ i ∈ isR, i ∉ isC) {S : Type} {w1 : S → va_W} {post : S → Prop} (M0 : MV l G d' y b mL rt (.ref b0 :: As) wc w1 post) (hdd : d' + 1 ≤ d) (hn1 : As.length = n) (hst : st = As.reverse ++ .ref b0 :: rest) (hcat : (rest.map fun v => v.category).sum ≤ 8) (hkc : kc ≤ R.cells ∧ ks ≤ R.slots) (k : ∀ (u : S), post u → V p l e R s m args below meth c nL G A Q (wr ++ w1 u) kc ks (pc + 3) lv (rest)) : V p l e R s m args below meth c nL G A Q w kc ks pc lv st := by
  subst hst
  refine fun H locs ls hP hD hS hl => va_callv (va_runV (As := As) (rest := rest) ⟨F.1, F.2.1, F.2.2.1, F.2.2.2.1, F.2.2.2.2.1⟩ (M0 H.size) (cs.use F rfl rfl rfl rfl hdd) (v_preV F hP (hP.sub isC hCf) (hD.sub isC hCn hC) hc he) rfl hn1 hl.1 rfl (lv_room hcat) hd ⟨hkc.1, hkc.2⟩) hS (fun q _ h => (va_free hD hS F.2.2.2.2.2.1 isC hC) q h) (va_free hD hS F.2.2.2.2.2.1 isC hC) (fun u t H1 locs1 ht hvm hw hB hz1 hk1 hS1 => ?_)
  exact (fun hj => k u hw H1 locs1 ls hj.1 hj.2 hS1 hl) (va_join hP hD isC isR hC hR hn hdis hk1 (va_free hD hS F.2.2.2.2.2.1 isC hC) (by rw [← ht]; exact hB.1) hB.2.2)
theorem v_cSVS (F : FX p R s m args c cc own nL d G A) {idx : Nat} {y : MethodName} {b : ByteArray} {mL n : Nat} {rt : Option FieldType} (cs : CSS own idx y b mL rt n) (hd : decode cc pc = .ok (.invokestatic idx, 3)) {d' : Nat} {As rest : List Value} (isC isR : List Nat) {wc wr : va_W} (hC : isC.map (fun i => w[i]?) = wc.map some) (hCf : isC.filterMap (fun i => w[i]?) = wc) (hCn : va_nd isC = true) (hR : isR.map (fun i => w[i]?) = wr.map some) (hn : va_nd isR = true) (hdis : ∀ i ∈ isR, i ∉ isC) {S : Type} {w1 : S → va_W} {post : S → Prop} (M0 : MV l G d' y b mL rt As wc w1 post) (hdd : d' + 1 ≤ d) (hn1 : As.length = n) (hst : st = As.reverse ++ rest) (hcat : (rest.map fun v => v.category).sum ≤ 8) (hkc : kc ≤ R.cells ∧ ks ≤ R.slots) (k : ∀ (u : S), post u → V p l e R s m args below meth c nL G A Q (wr ++ w1 u) kc ks (pc + 3) lv (rest)) : V p l e R s m args below meth c nL G A Q w kc ks pc lv st := by
  subst hst
  refine fun H locs ls hP hD hS hl => va_callv (va_runS (As := As) (rest := rest) ⟨F.1, F.2.1, F.2.2.1, F.2.2.2.1, F.2.2.2.2.1⟩ (M0 H.size) (cs.use F rfl rfl rfl rfl hdd) (v_preS F (hP.sub isC hCf) (hD.sub isC hCn hC)) rfl hn1 hl.1 rfl (lv_room hcat) hd ⟨hkc.1, hkc.2⟩) hS (fun q _ h => (va_free hD hS F.2.2.2.2.2.1 isC hC) q h) (va_free hD hS F.2.2.2.2.2.1 isC hC) (fun u t H1 locs1 ht hvm hw hB hz1 hk1 hS1 => ?_)
  exact (fun hj => k u hw H1 locs1 ls hj.1 hj.2 hS1 hl) (va_join hP hD isC isR hC hR hn hdis hk1 (va_free hD hS F.2.2.2.2.2.1 isC hC) (by rw [← ht]; exact hB.1) hB.2.2)
end VCALL2
end
section
/-! the class's cells as one world, and the words in which its lines are spoken of -/
abbrev LT : Type := (Nat → Int32) × Nat × Nat × Nat
abbrev HT : Type := (Nat → Int32) × Nat
abbrev PT : Type := (Nat → Int32) × (Nat → Int32) × Nat × Int32
abbrev TT : Type := (Nat → Int32) × (Nat → Int32) × (Nat → Int32) × (Nat → Int32) × Int32
abbrev RT : Type := (Nat → Int32) × Int32
abbrev XT : Type := (Nat → Int32) × Nat
abbrev DT : Type := Nat × Nat × Bool × Int32 × Int32 × Nat
/-- lines (table, size, moment, version), history, present, tree, reigns, text, reader -/
def wC (ad : Nat → Nat) (G : GT) (L : LT) (Hs : HT) (P : PT) (Tr : TT) (Rg : RT) (Tx : XT) (Rd : DT) : va_W := [
  (ad 0, .inr (7, [.ref (ad 1), .ref (ad 2), .ref (ad 3), .ref (ad 4), .ref (ad 5), .ref (ad 6)])),
  (ad 1, .inr (1, [.ref (ad 8), .int (nI L.2.1), .int (nI L.2.2.1), .int (nI L.2.2.2)])),
  (ad 2, .inr (0, [.ref (ad 9), .int (nI Hs.2)])),
  (ad 3, .inr (5, [.ref (ad 17), .ref (ad 7), .int (nI Tx.2)])),
  (ad 4, .inr (2, [.ref (ad 1), .ref (ad 10), .ref (ad 11), .int (nI P.2.2.1), .int P.2.2.2])),
  (ad 5, .inr (6, [.ref (ad 1), .ref (ad 12), .ref (ad 13), .ref (ad 14), .ref (ad 15), .int Tr.2.2.2.2])),
  (ad 6, .inr (4, [.ref (ad 1), .ref (ad 16), .int Rg.2])),
  (ad 7, .inr (3, [.int (nI Rd.1), .int (nI Rd.2.1), .int (bI Rd.2.2.1), .int Rd.2.2.2.1, .int Rd.2.2.2.2.1, .int (nI Rd.2.2.2.2.2)])),
  (ad 8, .inl (G.2.1, 120, .inl L.1)), (ad 9, .inl (G.2.1, 732, .inl Hs.1)), (ad 10, .inl (G.2.1, 64, .inl P.1)), (ad 11, .inl (G.2.1, 65, .inl P.2.1)),
  (ad 12, .inl (G.2.1, 128, .inl Tr.1)), (ad 13, .inl (G.2.1, 128, .inl Tr.2.1)), (ad 14, .inl (G.2.1, 128, .inl Tr.2.2.1)), (ad 15, .inl (G.2.1, 128, .inl Tr.2.2.2.1)),
  (ad 16, .inl (G.2.1, 20, .inl Rg.1)), (ad 17, .inl (G.2.1, 60, .inl Tx.1))]
def hasB (n : Nat) (line : Int32) : Bool := decide (0 ≤ line) && decide (line < nI n)
theorem hasB_t {n l : Nat} (h : l < n) (hn : n < 2 ^ 31) : bI (hasB n (nI l)) = bI true := by
  have h1 : (0 : Int32) ≤ nI l := nI_pos' (by omega)
  have h2 : nI l < nI n := nI_lt h hn
  simp [hasB, h1, h2]
theorem hasB_of {n : Nat} {x : Int32} (hn : n < 2 ^ 31) (h : hasB n x = true) : ∃ l : Nat, l < n ∧ x = nI l := by
  simp only [hasB, Bool.and_eq_true, decide_eq_true_eq] at h
  obtain ⟨j, hj, rfl⟩ := nI_of (Int32.not_lt.mpr h.1)
  exact ⟨j, (nI_ltI hj hn).mp h.2, rfl⟩
theorem hasB_a {n : Nat} {x : Int32} (h : x < 0) : nI 0 = bI (hasB n x) := by simp [hasB, bI, Int32.not_le.mpr h]; rfl
theorem hasB_b {n : Nat} {x : Int32} (h : nI n ≤ x) : nI 0 = bI (hasB n x) := by simp [hasB, bI, Int32.not_lt.mpr h]; rfl
theorem hasB_c {n : Nat} {x : Int32} (h : ¬ x < 0) (h2 : ¬ nI n ≤ x) : nI 1 = bI (hasB n x) := by simp [hasB, bI, Int32.not_lt.mp h, Int32.not_le.mp h2]; rfl
/-- the table behind addLine, behind drop -/
def pAdd (T : Nat → Int32) (n : Nat) (sl of fm lm : Int32) : Nat → Int32 := upd (upd (upd (upd (upd (upd T (n * 6 + 0) sl) (n * 6 + 1) of) (n * 6 + 2) (nI 0)) (n * 6 + 3) (nI 63)) (n * 6 + 4) fm) (n * 6 + 5) lm
def pDrop (T : Nat → Int32) (n l : Nat) : Nat → Int32 := va_cpy T T ((l + 1) * 6) (l * 6) (n * 6 - (l + 1) * 6)
/-- a line's value at a place -/
def pVal (T : Nat → Int32) (l x : Nat) : Int32 := T (l * 6 + 0) * nI x + T (l * 6 + 1)
end
section
/-! what is said of the lines: plain functions of the table -/
def inB (v lo hi : Int32) : Bool := !decide (v < lo) && !decide (hi < v)
def spB (T : Nat → Int32) (l x : Nat) : Bool := inB (nI x) (T (l * 6 + 2)) (T (l * 6 + 3))
def lvB (T : Nat → Int32) (l : Nat) (t : Int32) : Bool := inB t (T (l * 6 + 4)) (T (l * 6 + 5))
def cnt (T : Nat → Int32) (l x t : Nat) : Bool := spB T l x && lvB T l (nI t)
def low (T : Nat → Int32) (l o x : Nat) : Bool := decide (pVal T l x < pVal T o x) || (decide (pVal T l x = pVal T o x) && decide (l < o))
def lb (T : Nat → Int32) (x t : Nat) (out : Int32) : Nat → Option Nat
  | 0 => none
  | i + 1 => if nI i = out then lb T x t out i else if cnt T i x t = false then lb T x t out i else match lb T x t out i with
    | none => some i
    | some g => if pVal T g x ≤ pVal T i x then some g else some i
def oI : Option Nat → Int32
  | none => -1
  | some g => nI g
def oV (T : Nat → Int32) (x : Nat) : Option Nat → Int32
  | none => nI 0
  | some g => pVal T g x
def chg (T : Nat → Int32) (t : Nat) : Nat → Bool
  | 0 => false
  | i + 1 => chg T t i || (lvB T i (nI t) != lvB T i (nI t - nI 1))
def lvc (T : Nat → Int32) (t : Nat) : Nat → Nat
  | 0 => 0
  | i + 1 => lvc T t i + if lvB T i (nI t) = true then 1 else 0
def rnk (T : Nat → Int32) (l x t : Nat) : Nat → Nat
  | 0 => 0
  | i + 1 => rnk T l x t i + if cnt T i x t = true ∧ low T i l x = true then 1 else 0
/-- the ranges of a line's numbers -/
def ROK (T : Nat → Int32) (l : Nat) : Prop := (-99 ≤ (T (l * 6 + 0)).toInt ∧ (T (l * 6 + 0)).toInt ≤ 99) ∧ (-9999 ≤ (T (l * 6 + 1)).toInt ∧ (T (l * 6 + 1)).toInt ≤ 9999) ∧ (∃ a b : Nat, T (l * 6 + 2) = nI a ∧ T (l * 6 + 3) = nI b ∧ a ≤ b ∧ b < 64) ∧ ∃ a b : Nat, T (l * 6 + 4) = nI a ∧ T (l * 6 + 5) = nI b ∧ a ≤ b ∧ b < 100
def TOK (T : Nat → Int32) (n : Nat) : Prop := ∀ l, l < n → ROK T l
theorem i32_mul {a b : Int32} (h1 : -2147483648 ≤ a.toInt * b.toInt) (h2 : a.toInt * b.toInt < 2147483648) : (a * b).toInt = a.toInt * b.toInt := by
  rw [Int32.toInt_mul]; exact Int.bmod_eq_of_le (by omega) (by omega)
theorem i32_add {a b : Int32} (h1 : -2147483648 ≤ a.toInt + b.toInt) (h2 : a.toInt + b.toInt < 2147483648) : (a + b).toInt = a.toInt + b.toInt := by
  rw [Int32.toInt_add]; exact Int.bmod_eq_of_le (by omega) (by omega)
theorem i32_sub {a b : Int32} (h1 : -2147483648 ≤ a.toInt - b.toInt) (h2 : a.toInt - b.toInt < 2147483648) : (a - b).toInt = a.toInt - b.toInt := by
  rw [Int32.toInt_sub]; exact Int.bmod_eq_of_le (by omega) (by omega)
theorem prod_rng {a b x M N : Int} (h1 : -M ≤ a) (h2 : a ≤ M) (hx : 0 ≤ x) (hN : x ≤ N) (hM : 0 ≤ M) : -(M * N) ≤ a * x ∧ a * x ≤ M * N := by
  have h3 : a * x ≤ M * x := Int.mul_le_mul_of_nonneg_right h2 hx
  have h4 : -M * x ≤ a * x := Int.mul_le_mul_of_nonneg_right h1 hx
  have h5 : M * x ≤ M * N := Int.mul_le_mul_of_nonneg_left hN hM
  rw [Int.neg_mul] at h4
  omega
theorem pVal_eq {T : Nat → Int32} {l x : Nat} (h : ROK T l) (hx : x < 64) : (pVal T l x).toInt = (T (l * 6 + 0)).toInt * x + (T (l * 6 + 1)).toInt ∧ -16236 ≤ (pVal T l x).toInt ∧ (pVal T l x).toInt ≤ 16236 := by
  obtain ⟨⟨a1, a2⟩, ⟨b1, b2⟩, -⟩ := h
  have hn : (nI x).toInt = (x : Int) := nI_toInt (by omega)
  obtain ⟨p1, p2⟩ := prod_rng (a := (T (l * 6 + 0)).toInt) (b := 0) (x := (x : Int)) (M := 99) (N := 63) a1 a2 (by omega) (by omega) (by omega)
  have e1 : (T (l * 6 + 0) * nI x).toInt = (T (l * 6 + 0)).toInt * x := by
    rw [← hn] at p1 p2 ⊢
    exact i32_mul (by omega) (by omega)
  have e2 : (pVal T l x).toInt = (T (l * 6 + 0)).toInt * x + (T (l * 6 + 1)).toInt := by
    unfold pVal
    rw [i32_add (by rw [e1]; omega) (by rw [e1]; omega), e1]
  exact ⟨e2, by omega, by omega⟩
theorem low_diff {T : Nat → Int32} {l o x : Nat} (hl : ROK T l) (ho : ROK T o) (hx : x < 64) : (pVal T l x - pVal T o x < 0 ↔ pVal T l x < pVal T o x) ∧ (pVal T l x - pVal T o x = 0 ↔ pVal T l x = pVal T o x) := by
  obtain ⟨-, a1, a2⟩ := pVal_eq hl hx
  obtain ⟨-, b1, b2⟩ := pVal_eq ho hx
  have e : (pVal T l x - pVal T o x).toInt = (pVal T l x).toInt - (pVal T o x).toInt := i32_sub (by omega) (by omega)
  constructor
  · rw [Int32.lt_iff_toInt_lt, Int32.lt_iff_toInt_lt, e, Int32.toInt_zero]; omega
  · rw [← Int32.toInt_inj, ← Int32.toInt_inj, e, Int32.toInt_zero]; omega
theorem low_1 {T : Nat → Int32} {l o x : Nat} (hl : ROK T l) (ho : ROK T o) (hx : x < 64) (h : pVal T l x - pVal T o x < 0) : nI 1 = bI (low T l o x) := by
  simp [low, bI, (low_diff hl ho hx).1.mp h]; rfl
theorem low_2 {T : Nat → Int32} {l o x : Nat} (hl : ROK T l) (ho : ROK T o) (hx : x < 64) (h : ¬ pVal T l x - pVal T o x < 0) (h2 : ¬ pVal T l x - pVal T o x = 0) : nI 0 = bI (low T l o x) := by
  simp [low, bI, mt (low_diff hl ho hx).1.mpr h, mt (low_diff hl ho hx).2.mpr h2]; rfl
theorem low_3 {T : Nat → Int32} {l o x : Nat} (hl : ROK T l) (ho : ROK T o) (hx : x < 64) (h : ¬ pVal T l x - pVal T o x < 0) (h2 : pVal T l x - pVal T o x = 0) (h3 : l < o) : nI 1 = bI (low T l o x) := by
  simp [low, bI, (low_diff hl ho hx).2.mp h2, h3]; rfl
theorem low_4 {T : Nat → Int32} {l o x : Nat} (hl : ROK T l) (ho : ROK T o) (hx : x < 64) (h : ¬ pVal T l x - pVal T o x < 0) (h2 : pVal T l x - pVal T o x = 0) (h3 : o ≤ l) : nI 0 = bI (low T l o x) := by
  simp [low, bI, (low_diff hl ho hx).2.mp h2, Nat.not_lt.mpr h3, mt (low_diff hl ho hx).1.mpr h]; rfl
theorem lb_lt (T : Nat → Int32) (x t : Nat) (out : Int32) : ∀ (i g : Nat), lb T x t out i = some g → g < i
  | 0, g, h => by cases h
  | i + 1, g, h => by
    have ih := lb_lt T x t out i
    unfold lb at h
    split at h
    · exact Nat.lt_succ_of_lt (ih g h)
    · split at h
      · exact Nat.lt_succ_of_lt (ih g h)
      · split at h
        · cases h; exact Nat.lt_succ_self _
        · rename_i g' hg'
          split at h
          · cases h; exact Nat.lt_succ_of_lt (ih _ hg')
          · cases h; exact Nat.lt_succ_self _
section LBS
variable {T : Nat → Int32} {x t : Nat} {out : Int32} {i : Nat}
theorem lb_a (h : nI i = out) : lb T x t out (i + 1) = lb T x t out i := by rw [lb, if_pos h]
theorem lb_b (hc : cnt T i x t = false) : lb T x t out (i + 1) = lb T x t out i := by rw [lb, if_pos hc]; split <;> rfl
theorem lb_c (h : ¬ nI i = out) (hc : cnt T i x t = true) (hi : i < 2 ^ 31) (h1 : oI (lb T x t out i) = -1) : lb T x t out (i + 1) = some i := by
  rw [lb, if_neg h, if_neg (by simp [hc])]
  cases hb : lb T x t out i with
  | none => rfl
  | some g =>
    rw [hb] at h1
    have h2 := lb_lt T x t out i g hb
    exact absurd h1 (by
      intro q
      have q2 : (nI g).toInt = (-1 : Int32).toInt := congrArg Int32.toInt q
      rw [nI_toInt (by omega)] at q2
      have : (-1 : Int32).toInt = -1 := by decide
      omega)
theorem lb_d (hc : ¬ oI (lb T x t out i) = -1) (h2 : oV T x (lb T x t out i) ≤ pVal T i x) : lb T x t out (i + 1) = lb T x t out i := by
  rw [lb]
  split
  · rfl
  · split
    · rfl
    · cases hb : lb T x t out i with
      | none => rw [hb] at hc; exact absurd rfl hc
      | some g =>
        rw [hb] at h2
        show (if pVal T g x ≤ pVal T i x then some g else some i) = some g
        exact if_pos h2
theorem lb_e (h : ¬ nI i = out) (hc : cnt T i x t = true) (h1 : ¬ oI (lb T x t out i) = -1) (h2 : ¬ oV T x (lb T x t out i) ≤ pVal T i x) : lb T x t out (i + 1) = some i := by
  rw [lb, if_neg h, if_neg (by simp [hc])]
  cases hb : lb T x t out i with
  | none => rfl
  | some g =>
    rw [hb] at h2
    show (if pVal T g x ≤ pVal T i x then some g else some i) = some i
    exact if_neg h2
end LBS
theorem nI_one : nI 1 = 1 := rfl
theorem chg_s {T : Nat → Int32} {t i : Nat} (h : chg T t i = false) (h2 : bI (lvB T i (nI t)) = bI (lvB T i (nI t - nI 1))) : chg T t (i + 1) = false := by
  have : lvB T i (nI t) = lvB T i (nI t - nI 1) := by
    cases h3 : lvB T i (nI t) <;> cases h4 : lvB T i (nI t - nI 1) <;> rw [h3, h4] at h2 <;> first | rfl | exact absurd h2 (by decide)
  rw [chg, h, this]; simp
theorem chg_y {T : Nat → Int32} {t i n : Nat} (h : ¬ bI (lvB T i (nI t)) = bI (lvB T i (nI t - nI 1))) (hi : i < n) : nI 1 = bI (chg T t n) := by
  have h1 : chg T t (i + 1) = true := by
    have : (lvB T i (nI t) != lvB T i (nI t - nI 1)) = true := by
      simp only [bne_iff_ne, ne_eq]
      exact fun e => h (by rw [e])
    rw [chg, this]; simp
  have h2 : ∀ k, i + 1 ≤ k → chg T t k = true := by
    intro k hk
    induction k with
    | zero => omega
    | succ k ih =>
      rcases Nat.lt_or_ge k (i + 1) with q | q
      · rw [show k + 1 = i + 1 by omega]; exact h1
      · rw [chg, ih q]; simp
  rw [h2 n hi]; rfl
end
section
/-! the saved states; the reader of a text, character by character -/
def pPut (S : Nat → Int32) (a : Nat) (T : Nat → Int32) (n mo : Nat) : Nat → Int32 := va_cpy T (upd (upd S a (nI mo)) (a + 1) (nI n)) 0 (a + 2) 120
def pSave (S : Nat → Int32) (h : Nat) (T : Nat → Int32) (n mo : Nat) : Nat → Int32 := if h < 6 then pPut S (h * 122) T n mo else pPut (va_cpy S S 122 0 610) 610 T n mo
def pSaveH (h : Nat) : Nat := if h < 6 then h + 1 else 6
end
section
/-! what is worked out from the lines: the lowest lines at present, the rows of places, the first moments; a text read -/
def plo (T : Nat → Int32) (n mo x : Nat) : Int32 := oI (lb T x mo (-1) n)
def beg (T : Nat → Int32) (n mo x : Nat) : Bool := decide (x = 0) || !decide (plo T n mo x = plo T n mo (x - 1))
def rc (T : Nat → Int32) (n mo : Nat) : Nat → Nat
  | 0 => 0
  | x + 1 => rc T n mo x + if beg T n mo x = true then 1 else 0
def plc (T : Nat → Int32) (n mo : Nat) (ln : Int32) : Nat → Nat
  | 0 => 0
  | x + 1 => plc T n mo ln x + if plo T n mo x = ln then 1 else 0
/-- the first number below n with p; n, if there is none -/
def fst0 (p : Nat → Bool) : Nat → Nat
  | 0 => 0
  | n + 1 => if fst0 p n < n then fst0 p n else if p n = true then n else n + 1
theorem fst0_le (p : Nat → Bool) : ∀ n, fst0 p n ≤ n
  | 0 => Nat.le_refl _
  | n + 1 => by
    unfold fst0
    split
    · omega
    · split <;> omega
theorem fst0_no (p : Nat → Bool) : ∀ n k, k < fst0 p n → p k = false
  | 0, k, h => absurd h (Nat.not_lt_zero k)
  | n + 1, k, h => by
    have ih := fst0_no p n k
    have hl := fst0_le p n
    unfold fst0 at h
    split at h
    · exact ih h
    · rename_i h1
      split at h
      · exact ih (by omega)
      · rename_i h2
        rcases Nat.lt_or_ge k n with q | q
        · exact ih (by omega)
        · rw [show k = n by omega]; simpa using h2
theorem fst0_yes (p : Nat → Bool) : ∀ n, fst0 p n < n → p (fst0 p n) = true
  | 0, h => absurd h (Nat.not_lt_zero _)
  | n + 1, h => by
    have ih := fst0_yes p n
    unfold fst0 at h ⊢
    split at h
    · rename_i h1; rw [if_pos h1]; exact ih h1
    · rename_i h1
      rw [if_neg h1]
      split at h
      · rename_i h2; rw [if_pos h2]; exact h2
      · omega
theorem fst0_is {p : Nat → Bool} {n k : Nat} (hk : k < n) (hp : p k = true) (hn : ∀ j, j < k → p j = false) : fst0 p n = k := by
  rcases Nat.lt_trichotomy (fst0 p n) k with q | q | q
  · have := fst0_yes p n (by omega)
    rw [hn _ q] at this; cases this
  · exact q
  · have := fst0_no p n k q
    rw [hp] at this; cases this
theorem fst0_end {p : Nat → Bool} {n : Nat} (hn : ∀ j, j < n → p j = false) : fst0 p n = n := by
  rcases Nat.lt_or_ge (fst0 p n) n with q | q
  · have := fst0_yes p n q
    rw [hn _ q] at this; cases this
  · have := fst0_le p n; omega
def rowS (T : Nat → Int32) (n mo r : Nat) : Nat := fst0 (fun x => beg T n mo x && decide (rc T n mo x = r)) 64
section RCS
variable {T : Nat → Int32} {n mo : Nat}
theorem rc_le (T : Nat → Int32) (n mo : Nat) : ∀ x, rc T n mo x ≤ x
  | 0 => Nat.le_refl _
  | x + 1 => by have := rc_le T n mo x; unfold rc; split <;> omega
theorem rc_mono (T : Nat → Int32) (n mo y : Nat) : ∀ x, y ≤ x → rc T n mo y ≤ rc T n mo x
  | 0, h => by rw [show y = 0 by omega]; exact Nat.le_refl _
  | x + 1, h => by
    rcases Nat.lt_or_ge x y with q | q
    · rw [show y = x + 1 by omega]; exact Nat.le_refl _
    · have := rc_mono T n mo y x q
      show _ ≤ rc T n mo x + _
      omega
theorem rc_b {x : Nat} (h : beg T n mo x = true) : rc T n mo (x + 1) = rc T n mo x + 1 := by rw [rc, if_pos h]
theorem rc_n {x : Nat} (h : beg T n mo x = false) : rc T n mo (x + 1) = rc T n mo x := by rw [rc, if_neg (by simp [h])]; rfl
theorem rc_lt {x y : Nat} (h : beg T n mo y = true) (hx : y < x) : rc T n mo y < rc T n mo x := by
  have h1 := rc_b h
  have h2 := rc_mono T n mo (y + 1) x hx
  omega
def POK (T : Nat → Int32) (n mo ver : Nat) (P : PT) : Prop := P.2.2.2 = nI ver ∧ (∀ x, x < 64 → P.1 x = plo T n mo x) ∧ P.2.2.1 = rc T n mo 64 ∧ (∀ x, x < 64 → beg T n mo x = true → P.2.1 (rc T n mo x) = nI x) ∧ P.2.1 (rc T n mo 64) = nI 64
/-- the version of something worked out is none of the versions to come -/
def old (ver : Nat) (v : Int32) : Prop := v = -1 ∨ ∃ w, w ≤ ver ∧ v = nI w
def PCI (T : Nat → Int32) (n mo ver : Nat) (P : PT) : Prop := old ver P.2.2.2 ∧ (P.2.2.2 = nI ver → POK T n mo ver P)
theorem POK.ci {ver : Nat} {P : PT} (h : POK T n mo ver P) : PCI T n mo ver P := ⟨Or.inr ⟨ver, Nat.le_refl _, h.1⟩, fun _ => h⟩
theorem old.ne {ver ver' : Nat} {v : Int32} (h : old ver v) (hv : ver < ver') (hb : ver' < 2 ^ 31) : ¬ v = nI ver' := by
  rcases h with rfl | ⟨w, hw, rfl⟩
  · intro q
    have q2 : (-1 : Int32).toInt = (nI ver').toInt := congrArg Int32.toInt q
    rw [nI_toInt hb] at q2
    have : (-1 : Int32).toInt = -1 := by decide
    omega
  · intro q
    have := (nI_eq (by omega) hb).mp q
    omega
theorem old.up {ver ver' : Nat} {v : Int32} (h : old ver v) (hv : ver ≤ ver') : old ver' v := by
  rcases h with h | ⟨w, hw, h⟩
  · exact Or.inl h
  · exact Or.inr ⟨w, by omega, h⟩
theorem PCI.bump {T' : Nat → Int32} {n' mo' ver ver' : Nat} {P : PT} (h : PCI T n mo ver P) (hv : ver < ver') (hb : ver' < 2 ^ 31) : PCI T' n' mo' ver' P := ⟨h.1.up (by omega), fun q => absurd q (h.1.ne hv hb)⟩
theorem upd_s {f : Nat → Int32} {k : Nat} {v : Int32} : upd f k v k = v := by simp [upd]
theorem upd_n {f : Nat → Int32} {k j : Nat} {v : Int32} (h : ¬ j = k) : upd f k v j = f j := by simp [upd, h]
theorem pl_step {lo : Nat → Int32} {i : Nat} (h : ∀ x, x < i → lo x = plo T n mo x) : ∀ x, x < i + 1 → upd lo i (oI (lb T i mo (-1) n)) x = plo T n mo x := by
  intro x hx
  by_cases q : x = i
  · subst q; rw [upd_s]; rfl
  · rw [upd_n q]; exact h x (by omega)
theorem beg_0 {i : Nat} (h : i = 0) : beg T n mo i = true := by simp [beg, h]
theorem beg_n {lo : Nat → Int32} {i : Nat} (h : ∀ x, x < i → lo x = plo T n mo x) (h0 : ¬ i = 0) (he : upd lo i (oI (lb T i mo (-1) n)) i = upd lo i (oI (lb T i mo (-1) n)) (i - 1)) : beg T n mo i = false := by
  rw [upd_s, upd_n (by omega), h (i - 1) (by omega)] at he
  have he : plo T n mo i = plo T n mo (i - 1) := he
  simp [beg, h0, he]
theorem beg_y {lo : Nat → Int32} {i : Nat} (h : ∀ x, x < i → lo x = plo T n mo x) (h0 : ¬ i = 0) (he : ¬ upd lo i (oI (lb T i mo (-1) n)) i = upd lo i (oI (lb T i mo (-1) n)) (i - 1)) : beg T n mo i = true := by
  rw [upd_s, upd_n (by omega), h (i - 1) (by omega)] at he
  have he : ¬ plo T n mo i = plo T n mo (i - 1) := he
  simp [beg, he]
theorem st_stepb {sts : Nat → Int32} {i rw : Nat} (hst : ∀ x, x < i → beg T n mo x = true → sts (rc T n mo x) = nI x) (hrw : rw = rc T n mo i) (hb : beg T n mo i = true) : ∀ x, x < i + 1 → beg T n mo x = true → upd sts rw (nI i) (rc T n mo x) = nI x := by
  intro x hx hbx
  by_cases q : x = i
  · subst q; subst hrw; rw [upd_s]
  · have := rc_lt (x := i) hbx (by omega)
    rw [upd_n (by omega)]; exact hst x (by omega) hbx
theorem st_stepn {sts : Nat → Int32} {i : Nat} (hst : ∀ x, x < i → beg T n mo x = true → sts (rc T n mo x) = nI x) (hb : beg T n mo i = false) : ∀ x, x < i + 1 → beg T n mo x = true → sts (rc T n mo x) = nI x := by
  intro x hx hbx
  by_cases q : x = i
  · subst q; rw [hb] at hbx; cases hbx
  · exact hst x (by omega) hbx
theorem rw_stepb {i rw : Nat} (hrw : rw = rc T n mo i) (hb : beg T n mo i = true) : rw + 1 = rc T n mo (i + 1) := by rw [rc_b hb, hrw]
theorem rw_stepn {i rw : Nat} (hrw : rw = rc T n mo i) (hb : beg T n mo i = false) : rw = rc T n mo (i + 1) := by rw [rc_n hb, hrw]
theorem POK_end {ver : Nat} {lo sts : Nat → Int32} {i rw : Nat} (hi : i = 64) (hlo : ∀ x, x < i → lo x = plo T n mo x) (hst : ∀ x, x < i → beg T n mo x = true → sts (rc T n mo x) = nI x) (hrw : rw = rc T n mo i) : POK T n mo ver (lo, upd sts rw (nI 64), rw, nI ver) := by
  subst hi; subst hrw
  refine ⟨rfl, hlo, rfl, fun x hx hb => ?_, upd_s⟩
  have := rc_lt (x := 64) hb hx
  show upd sts (rc T n mo 64) (nI 64) (rc T n mo x) = nI x
  rw [upd_n (by omega)]; exact hst x hx hb
theorem rc_at {r : Nat} : ∀ x, r < rc T n mo x → ∃ y, y < x ∧ beg T n mo y = true ∧ rc T n mo y = r
  | 0, h => absurd h (Nat.not_lt_zero _)
  | x + 1, h => by
    by_cases hb : beg T n mo x = true
    · rw [rc_b hb] at h
      rcases Nat.lt_or_ge r (rc T n mo x) with q | q
      · obtain ⟨y, h1, h2⟩ := rc_at x q
        exact ⟨y, by omega, h2⟩
      · exact ⟨x, by omega, hb, by omega⟩
    · rw [rc_n (by simpa using hb)] at h
      obtain ⟨y, h1, h2⟩ := rc_at x h
      exact ⟨y, by omega, h2⟩
theorem rowS_at {x : Nat} (hx : x < 64) (hb : beg T n mo x = true) : rowS T n mo (rc T n mo x) = x := by
  refine fst0_is hx (by simp [hb]) (fun j hj => ?_)
  by_cases hbj : beg T n mo j = true
  · have := rc_lt (x := x) hbj hj
    simp; intro _; omega
  · simp [hbj]
theorem rowS_end : rowS T n mo (rc T n mo 64) = 64 := by
  refine fst0_end (fun j hj => ?_)
  by_cases hbj : beg T n mo j = true
  · have := rc_lt (x := 64) hbj hj
    simp; intro _; omega
  · simp [hbj]
theorem rowS_of {ver : Nat} {P : PT} (h : POK T n mo ver P) {r : Nat} (hr : r ≤ rc T n mo 64) : P.2.1 r = nI (rowS T n mo r) := by
  rcases Nat.lt_or_ge r (rc T n mo 64) with q | q
  · obtain ⟨y, h1, h2, rfl⟩ := rc_at 64 q
    rw [rowS_at h1 h2]; exact h.2.2.2.1 y h1 h2
  · rw [show r = rc T n mo 64 by omega, rowS_end]; exact h.2.2.2.2
end RCS
def fillF (f : Nat → Int32) (v : Int32) (k : Nat) : Nat → Int32 := fun j => if j < k then v else f j
theorem fillF_0 {f : Nat → Int32} {v : Int32} : f = fillF f v 0 := by funext j; simp [fillF]
theorem fillF_s {f : Nat → Int32} {v : Int32} {i : Nat} : upd (fillF f v i) i v = fillF f v (i + 1) := by
  funext j
  by_cases q : j = i
  · subst q; simp [upd, fillF]
  · have : (j < i + 1) = (j < i) := by apply propext; omega
    simp [upd, fillF, q, this]
/-- the first moments: behind one moment's places, behind the moments -/
def nt (T : Nat → Int32) (n t : Nat) (fm : Nat → Int32) : Nat → Nat → Int32
  | 0 => fm
  | x + 1 => match lb T x t (-1) n with
    | none => nt T n t fm x
    | some g => if nt T n t fm x g = -1 then upd (nt T n t fm x) g (nI t) else nt T n t fm x
def rn (T : Nat → Int32) (n : Nat) (f : Nat → Int32) : Nat → Nat → Int32
  | 0 => f
  | t + 1 => if chg T t n = true then nt T n t (rn T n f t) 64 else rn T n f t
def fmo (T : Nat → Int32) (n g : Nat) : Int32 := rn T n (fun _ => -1) 100 g
def nvr (T : Nat → Int32) (n : Nat) : Nat → Int32
  | 0 => nI 0
  | i + 1 => if fmo T n i = -1 then nvr T n i ||| (nI 1 <<< (nI i &&& 31)) else nvr T n i
section RNS
variable {T : Nat → Int32} {n t x : Nat} {fm : Nat → Int32}
theorem nt_0 (h : lb T x t (-1) n = none) : nt T n t fm x = nt T n t fm (x + 1) := by
  show _ = (match lb T x t (-1) n with | none => nt T n t fm x | some g => if nt T n t fm x g = -1 then upd (nt T n t fm x) g (nI t) else nt T n t fm x)
  rw [h]
theorem nt_1 {g : Nat} (h : lb T x t (-1) n = some g) (h2 : nt T n t fm x g = -1) : upd (nt T n t fm x) g (nI t) = nt T n t fm (x + 1) := by
  show _ = (match lb T x t (-1) n with | none => nt T n t fm x | some g => if nt T n t fm x g = -1 then upd (nt T n t fm x) g (nI t) else nt T n t fm x)
  rw [h]
  exact (if_pos h2).symm
theorem nt_2 {g : Nat} (h : lb T x t (-1) n = some g) (h2 : ¬ nt T n t fm x g = -1) : nt T n t fm x = nt T n t fm (x + 1) := by
  show _ = (match lb T x t (-1) n with | none => nt T n t fm x | some g => if nt T n t fm x g = -1 then upd (nt T n t fm x) g (nI t) else nt T n t fm x)
  rw [h]
  exact (if_neg h2).symm
theorem rn_1 (h : chg T t n = true) : nt T n t (rn T n fm t) 64 = rn T n fm (t + 1) := by rw [rn, if_pos h]
theorem rn_0 (h : chg T t n = false) : rn T n fm t = rn T n fm (t + 1) := by rw [rn, if_neg (by simp [h])]
theorem nt_cong {f g : Nat → Int32} (hn : n ≤ 20) (h : ∀ j, j < 20 → f j = g j) : ∀ x j, j < 20 → nt T n t f x j = nt T n t g x j
  | 0, j, hj => h j hj
  | x + 1, j, hj => by
    have ih := nt_cong hn h x
    show (match lb T x t (-1) n with | none => nt T n t f x | some k => if nt T n t f x k = -1 then upd (nt T n t f x) k (nI t) else nt T n t f x) j = (match lb T x t (-1) n with | none => nt T n t g x | some k => if nt T n t g x k = -1 then upd (nt T n t g x) k (nI t) else nt T n t g x) j
    cases hl : lb T x t (-1) n with
    | none => exact ih j hj
    | some k =>
      have hk := lb_lt _ _ _ _ _ _ hl
      have e := ih k (by omega)
      show (if nt T n t f x k = -1 then upd (nt T n t f x) k (nI t) else nt T n t f x) j = (if nt T n t g x k = -1 then upd (nt T n t g x) k (nI t) else nt T n t g x) j
      rw [e]
      split
      · by_cases q : j = k
        · subst q; rw [upd_s, upd_s]
        · rw [upd_n q, upd_n q]; exact ih j hj
      · exact ih j hj
theorem rn_cong {f g : Nat → Int32} (hn : n ≤ 20) (h : ∀ j, j < 20 → f j = g j) : ∀ t j, j < 20 → rn T n f t j = rn T n g t j
  | 0, j, hj => h j hj
  | t + 1, j, hj => by
    have ih := rn_cong hn h t
    unfold rn
    split
    · exact nt_cong hn ih 64 j hj
    · exact ih j hj
def RK (T : Nat → Int32) (n ver : Nat) (Rg : RT) : Prop := Rg.2 = nI ver ∧ ∃ f0, Rg.1 = rn T n (fillF f0 (-1) 20) 100
def RCI (T : Nat → Int32) (n ver : Nat) (Rg : RT) : Prop := old ver Rg.2 ∧ (Rg.2 = nI ver → RK T n ver Rg)
theorem RK.ci {ver : Nat} {Rg : RT} (h : RK T n ver Rg) : RCI T n ver Rg := ⟨Or.inr ⟨ver, Nat.le_refl _, h.1⟩, fun _ => h⟩
theorem RCI.bump {T' : Nat → Int32} {n' ver ver' : Nat} {Rg : RT} (h : RCI T n ver Rg) (hv : ver < ver') (hb : ver' < 2 ^ 31) : RCI T' n' ver' Rg := ⟨h.1.up (by omega), fun q => absurd q (h.1.ne hv hb)⟩
theorem RK.val {ver : Nat} {Rg : RT} (h : RK T n ver Rg) (hn : n ≤ 20) {g : Nat} (hg : g < 20) : Rg.1 g = fmo T n g := by
  obtain ⟨-, f0, h2⟩ := h
  rw [h2]
  exact rn_cong hn (fun j hj => by simp [fillF, hj]) 100 g hg
end RNS
end
section
def TXOK (co : Nat → Int32) (len : Nat) : Prop := len ≤ 60 ∧ ∀ i, i < len → ∃ c : Nat, 33 ≤ c ∧ c ≤ 126 ∧ co i = nI c
def DOK (d : DT) : Prop := d.1 ≤ 9 ∧ d.2.1 ≤ 9999 ∧ d.2.2.2.2.2 ≤ 9999
section TX2
variable {co : Nat → Int32} {len i : Nat} {d : DT} {T : Nat → Int32} {n mo ver : Nat}
end TX2
end
section
/-! the tree over the places -/
def gF (k : Nat) : Nat := (k - 2 ^ Nat.log2 k) * (64 / 2 ^ Nat.log2 k)
def gL (k : Nat) : Nat := gF k + 64 / 2 ^ Nat.log2 k - 1
def ndB (k : Nat) : Bool := decide (1 ≤ k) && decide (k ≤ 127)
theorem ndB_of {k : Nat} (h : ndB k = true) : 1 ≤ k ∧ k ≤ 127 := by simp [ndB] at h; exact h
theorem ndB_t {k : Nat} (h : 1 ≤ k) (h2 : k ≤ 127) : ndB k = true := by simp [ndB, h, h2]
theorem geo_all : ∀ k, k < 128 → 1 ≤ k → gF k ≤ gL k ∧ gL k < 64 ∧ (gF k = gL k ↔ 64 ≤ k) ∧ (k < 64 → gF (2 * k) = gF k ∧ gL (2 * k) = (gF k + gL k) / 2 ∧ gF (2 * k + 1) = (gF k + gL k) / 2 + 1 ∧ gL (2 * k + 1) = gL k) := by decide +kernel
def GEO (fp lp : Nat → Int32) : Prop := ∀ k, 1 ≤ k → k ≤ 127 → fp k = nI (gF k) ∧ lp k = nI (gL k)
abbrev KS : Type := (Nat → Int32) × (Nat → Int32)
/-- a line put into a node of at most f levels, by its own steps -/
def tPut (T : Nat → Int32) : Nat → Nat → Nat → KS → KS
  | 0, _, _, S => S
  | f + 1, l, k, S =>
    if k < 1 ∨ 127 < k then S
    else if T (l * 6 + 3) < nI (gF k) ∨ ¬ T (l * 6 + 2) ≤ nI (gL k) then S
    else if nI (gF k) < T (l * 6 + 2) ∨ ¬ nI (gL k) ≤ T (l * 6 + 3) then tPut T f l (2 * k + 1) (tPut T f l (2 * k) S)
    else if S.1 k = -1 then (upd S.1 k (nI l), upd S.2 k (S.2 k + nI 1))
    else if low T l (S.1 k).toNatClampNeg ((gF k + gL k) / 2) = true then
      (if gF k = gL k then (upd S.1 k (nI l), upd S.2 k (S.2 k + nI 1))
       else if low T (S.1 k).toNatClampNeg l (gF k) = true then tPut T f (S.1 k).toNatClampNeg (2 * k) (upd S.1 k (nI l), upd S.2 k (S.2 k + nI 1))
       else if low T (S.1 k).toNatClampNeg l (gL k) = true then tPut T f (S.1 k).toNatClampNeg (2 * k + 1) (upd S.1 k (nI l), upd S.2 k (S.2 k + nI 1))
       else (upd S.1 k (nI l), upd S.2 k (S.2 k + nI 1)))
    else
      (if gF k = gL k then (S.1, upd S.2 k (S.2 k + nI 1))
       else if low T l (S.1 k).toNatClampNeg (gF k) = true then tPut T f l (2 * k) (S.1, upd S.2 k (S.2 k + nI 1))
       else if low T l (S.1 k).toNatClampNeg (gL k) = true then tPut T f l (2 * k + 1) (S.1, upd S.2 k (S.2 k + nI 1))
       else (S.1, upd S.2 k (S.2 k + nI 1)))
def KOK (ke : Nat → Int32) (n : Nat) : Prop := ∀ j, j < 128 → ke j = -1 ∨ ∃ g, g < n ∧ ke j = nI g
theorem KOK_at {ke : Nat → Int32} {n k : Nat} (h : KOK ke n) (hk : k < 128) (hne : ¬ ke k = -1) : ∃ g, g < n ∧ ke k = nI g := (h k hk).elim (fun q => absurd q hne) id
theorem KOK_upd {ke : Nat → Int32} {n k l : Nat} (h : KOK ke n) (hl : l < n) : KOK (upd ke k (nI l)) n := fun j hj => by
  by_cases q : j = k
  · rw [q, upd_s]; exact Or.inr ⟨l, hl, rfl⟩
  · rw [upd_n q]; exact h j hj
section TPUT
variable {T : Nat → Int32} {n : Nat}
theorem tPut_ok (hn : n ≤ 20) : ∀ (f l k : Nat) (S : KS), l < n → KOK S.1 n → KOK (tPut T f l k S).1 n
  | 0, _, _, S, _, h => h
  | f + 1, l, k, S, hl, h => by
    have ih := tPut_ok hn f
    unfold tPut
    split
    · exact h
    · rename_i hk
      split
      · exact h
      · split
        · exact ih l (2 * k + 1) _ hl (ih l (2 * k) _ hl h)
        · split
          · exact KOK_upd h hl
          · rename_i hne
            obtain ⟨g, hg, e⟩ := KOK_at h (by omega) hne
            have hc : (S.1 k).toNatClampNeg = g := by rw [e, nI_clamp (by omega)]
            rw [hc]
            split
            · repeat' split
              all_goals first | exact KOK_upd h hl | exact ih g _ _ hg (KOK_upd h hl)
            · repeat' split
              all_goals first | exact h | exact ih l _ _ hl h
section
variable {f l k g : Nat} {ke sp : Nat → Int32}
theorem tP_0 (h : k < 1 ∨ 127 < k) : tPut T (f + 1) l k (ke, sp) = (ke, sp) := by rw [tPut, if_pos h]
theorem tP_1 (h1 : T (l * 6 + 3) < nI (gF k)) : tPut T (f + 1) l k (ke, sp) = (ke, sp) := by
  rw [tPut]; split
  · rfl
  · rw [if_pos (Or.inl h1)]
theorem tP_2 (h1 : ¬ T (l * 6 + 2) ≤ nI (gL k)) : tPut T (f + 1) l k (ke, sp) = (ke, sp) := by
  rw [tPut]; split
  · rfl
  · rw [if_pos (Or.inr h1)]
theorem tP_3 (h0 : 1 ≤ k) (h00 : k ≤ 127) (h1 : ¬ T (l * 6 + 3) < nI (gF k)) (h2 : T (l * 6 + 2) ≤ nI (gL k)) (h3 : nI (gF k) < T (l * 6 + 2) ∨ ¬ nI (gL k) ≤ T (l * 6 + 3)) : tPut T (f + 1) l k (ke, sp) = tPut T f l (2 * k + 1) (tPut T f l (2 * k) (ke, sp)) := by
  rw [tPut, if_neg (by omega), if_neg (fun q => q.elim h1 (fun q => q h2)), if_pos h3]
theorem tP_4 (h0 : 1 ≤ k) (h00 : k ≤ 127) (h1 : ¬ T (l * 6 + 3) < nI (gF k)) (h2 : T (l * 6 + 2) ≤ nI (gL k)) (h3 : ¬ nI (gF k) < T (l * 6 + 2)) (h4 : nI (gL k) ≤ T (l * 6 + 3)) (h5 : ke k = -1) : tPut T (f + 1) l k (ke, sp) = (upd ke k (nI l), upd sp k (sp k + nI 1)) := by
  rw [tPut, if_neg (by omega), if_neg (fun q => q.elim h1 (fun q => q h2)), if_neg (fun q => q.elim h3 (fun q => q h4)), if_pos h5]
/-- where the node keeps the line g -/
def tRest (T : Nat → Int32) (f l k g : Nat) (ke sp : Nat → Int32) : KS :=
    if low T l g ((gF k + gL k) / 2) = true then
      (if gF k = gL k then (upd ke k (nI l), upd sp k (sp k + nI 1))
       else if low T g l (gF k) = true then tPut T f g (2 * k) (upd ke k (nI l), upd sp k (sp k + nI 1))
       else if low T g l (gL k) = true then tPut T f g (2 * k + 1) (upd ke k (nI l), upd sp k (sp k + nI 1))
       else (upd ke k (nI l), upd sp k (sp k + nI 1)))
    else
      (if gF k = gL k then (ke, upd sp k (sp k + nI 1))
       else if low T l g (gF k) = true then tPut T f l (2 * k) (ke, upd sp k (sp k + nI 1))
       else if low T l g (gL k) = true then tPut T f l (2 * k + 1) (ke, upd sp k (sp k + nI 1))
       else (ke, upd sp k (sp k + nI 1)))
theorem nI_ne1 {g : Nat} (hg : g < 2 ^ 31) : ¬ nI g = -1 := fun q => by
  have q2 : (nI g).toInt = (-1 : Int32).toInt := congrArg Int32.toInt q
  rw [nI_toInt hg] at q2
  have : (-1 : Int32).toInt = -1 := by decide
  omega
theorem tP_5 (h0 : 1 ≤ k) (h00 : k ≤ 127) (h1 : ¬ T (l * 6 + 3) < nI (gF k)) (h2 : T (l * 6 + 2) ≤ nI (gL k)) (h3 : ¬ nI (gF k) < T (l * 6 + 2)) (h4 : nI (gL k) ≤ T (l * 6 + 3)) (h5 : ke k = nI g) (hg : g < 2 ^ 31) : tPut T (f + 1) l k (ke, sp) = tRest T f l k g ke sp := by
  have e : (ke k).toNatClampNeg = g := by rw [h5, nI_clamp hg]
  rw [tPut, if_neg (by omega), if_neg (fun q => q.elim h1 (fun q => q h2)), if_neg (fun q => q.elim h3 (fun q => q h4)), if_neg (by show ¬ ke k = -1; rw [h5]; exact nI_ne1 hg)]
  show (if low T l (ke k).toNatClampNeg _ = true then _ else _) = _
  rw [e]; rfl
end
theorem tPut_cong (hn : n ≤ 20) : ∀ (f l k : Nat) (S S' : KS), (∀ j, j < 128 → S.1 j = S'.1 j ∧ S.2 j = S'.2 j) → ∀ j, j < 128 → (tPut T f l k S).1 j = (tPut T f l k S').1 j ∧ (tPut T f l k S).2 j = (tPut T f l k S').2 j
  | 0, _, _, _, _, h => h
  | f + 1, l, k, S, S', h => by
    have ih := tPut_cong hn f
    unfold tPut
    split
    · exact h
    · rename_i hk
      have ek := h k (by omega)
      have hu : ∀ (A B : Nat → Int32) (v : Int32), (∀ j, j < 128 → A j = B j) → ∀ j, j < 128 → upd A k v j = upd B k v j := fun A B v hab j hj => by
        by_cases q : j = k
        · rw [q, upd_s, upd_s]
        · rw [upd_n q, upd_n q]; exact hab j hj
      have hsp : ∀ j, j < 128 → upd S.2 k (S.2 k + nI 1) j = upd S'.2 k (S'.2 k + nI 1) j := by
        rw [ek.2]; exact hu _ _ _ (fun j hj => (h j hj).2)
      have hke : ∀ l j, j < 128 → upd S.1 k (nI l) j = upd S'.1 k (nI l) j := fun l => hu _ _ _ (fun j hj => (h j hj).1)
      split
      · exact h
      · split
        · exact ih _ _ _ _ (ih _ _ _ _ h)
        · rw [ek.1]
          split
          · exact fun j hj => ⟨hke l j hj, hsp j hj⟩
          · split
            · repeat' split
              all_goals first | exact fun j hj => ⟨hke l j hj, hsp j hj⟩ | exact ih _ _ _ _ (fun j hj => ⟨hke l j hj, hsp j hj⟩)
            · repeat' split
              all_goals first | exact fun j hj => ⟨(h j hj).1, hsp j hj⟩ | exact ih _ _ _ _ (fun j hj => ⟨(h j hj).1, hsp j hj⟩)
end TPUT
def tAll (T : Nat → Int32) (mo : Nat) (S : KS) : Nat → KS
  | 0 => S
  | i + 1 => if lvB T i (nI mo) = true then tPut T 7 i 1 (tAll T mo S i) else tAll T mo S i
def tkF (T : Nat → Int32) (n mo : Nat) : KS := tAll T mo (fun _ => -1, fun _ => nI 0) n
def kp (T : Nat → Int32) (n mo k : Nat) : Int32 := (tkF T n mo).1 k
def stp (T : Nat → Int32) (n mo k : Nat) : Int32 := (tkF T n mo).2 k
def nds (T : Nat → Int32) (n mo : Nat) (ln : Int32) : Nat → Nat
  | 0 => 0
  | k + 1 => nds T n mo ln k + if 1 ≤ k ∧ kp T n mo k = ln then 1 else 0
def sts (T : Nat → Int32) (n mo : Nat) : Nat → Int32
  | 0 => nI 0
  | k + 1 => if 1 ≤ k then sts T n mo k + stp T n mo k else sts T n mo k
section TALL
variable {T : Nat → Int32} {n mo ver : Nat}
theorem tAll_ok (hn : n ≤ 20) {S : KS} (h : KOK S.1 n) : ∀ i, i ≤ n → KOK (tAll T mo S i).1 n
  | 0, _ => h
  | i + 1, hi => by
    have ih := tAll_ok hn h i (by omega)
    unfold tAll; split
    · exact tPut_ok hn _ _ _ _ (by omega) ih
    · exact ih
theorem tAll_cong (hn : n ≤ 20) {S S' : KS} (h : ∀ j, j < 128 → S.1 j = S'.1 j ∧ S.2 j = S'.2 j) : ∀ i j, j < 128 → (tAll T mo S i).1 j = (tAll T mo S' i).1 j ∧ (tAll T mo S i).2 j = (tAll T mo S' i).2 j
  | 0 => h
  | i + 1 => by
    have ih := tAll_cong hn h i
    unfold tAll; split
    · exact tPut_cong hn _ _ _ _ _ ih
    · exact ih
theorem tA_1 {S : KS} {i : Nat} (h : lvB T i (nI mo) = true) : tPut T 7 i 1 (tAll T mo S i) = tAll T mo S (i + 1) := by rw [tAll, if_pos h]
theorem tA_0 {S : KS} {i : Nat} (h : lvB T i (nI mo) = false) : tAll T mo S i = tAll T mo S (i + 1) := by rw [tAll, if_neg (by simp [h])]
theorem KOK_fill {f : Nat → Int32} : KOK (fillF f (-1) 128) n := fun j hj => Or.inl (by simp [fillF, hj])
def TK (T : Nat → Int32) (n mo ver : Nat) (Tr : TT) : Prop := GEO Tr.1 Tr.2.1 ∧ Tr.2.2.2.2 = nI ver ∧ ∃ ke sp, (Tr.2.2.1, Tr.2.2.2.1) = tAll T mo (fillF ke (-1) 128, fillF sp (nI 0) 128) n
def TCI (T : Nat → Int32) (n mo ver : Nat) (Tr : TT) : Prop := GEO Tr.1 Tr.2.1 ∧ old ver Tr.2.2.2.2 ∧ (Tr.2.2.2.2 = nI ver → TK T n mo ver Tr)
theorem TK.ci {Tr : TT} (h : TK T n mo ver Tr) : TCI T n mo ver Tr := ⟨h.1, Or.inr ⟨ver, Nat.le_refl _, h.2.1⟩, fun _ => h⟩
theorem TCI.bump {T' : Nat → Int32} {n' mo' ver' : Nat} {Tr : TT} (h : TCI T n mo ver Tr) (hv : ver < ver') (hb : ver' < 2 ^ 31) : TCI T' n' mo' ver' Tr := ⟨h.1, h.2.1.up (by omega), fun q => absurd q (h.2.1.ne hv hb)⟩
theorem TK.val {Tr : TT} (h : TK T n mo ver Tr) (hn : n ≤ 20) {k : Nat} (hk : k < 128) : Tr.2.2.1 k = kp T n mo k ∧ Tr.2.2.2.1 k = stp T n mo k := by
  obtain ⟨-, -, ke, sp, e⟩ := h
  have e1 : Tr.2.2.1 = (tAll T mo (fillF ke (-1) 128, fillF sp (nI 0) 128) n).1 := congrArg Prod.fst e
  have e2 : Tr.2.2.2.1 = (tAll T mo (fillF ke (-1) 128, fillF sp (nI 0) 128) n).2 := congrArg Prod.snd e
  rw [e1, e2]
  exact tAll_cong hn (fun j hj => by simp [fillF, hj]) n k hk
end TALL
end
section
/-! what the calls of the face answer, as plain functions of the table, the size, the present moment -/
def slB (x : Int32) : Bool := inB x (-99) (nI 99)
def ofB (x : Int32) : Bool := inB x (-9999) (nI 9999)
def plB (x : Int32) : Bool := inB x (nI 0) (nI 63)
def moB (x : Int32) : Bool := inB x (nI 0) (nI 99)
def stB (f l e : Int32) : Bool := !decide (f < 0) && (!decide (l < f) && !decide (e ≤ l))
theorem i32_le_succ (x : Int32) {k : Nat} (hk : k < 2147483647) : nI (k + 1) ≤ x ↔ nI k < x := by
  rw [Int32.le_iff_toInt_le, Int32.lt_iff_toInt_lt, nI_toInt (by omega), nI_toInt (by omega)]; omega
theorem inB_of {x : Int32} {k : Nat} (hk : k < 2147483647) (h : inB x (nI 0) (nI k) = true) : ∃ j, j < k + 1 ∧ x = nI j := by
  simp only [inB, Bool.and_eq_true, Bool.not_eq_true', decide_eq_false_iff_not] at h
  obtain ⟨j, hj, rfl⟩ := nI_of (x := x) (by rw [← nI_0]; exact h.1)
  have : j ≤ k := Nat.not_lt.mp (fun q => h.2 ((nI_ltI (by omega) hj).mpr q))
  exact ⟨j, by omega, rfl⟩
theorem inB_t {j k : Nat} (h : j ≤ k) (hk : k < 2147483647) : inB (nI j) (nI 0) (nI k) = true := by
  have h1 : ¬ nI j < nI 0 := fun q => by have := (nI_ltI (by omega) (by omega)).mp q; omega
  have h2 : ¬ nI k < nI j := fun q => by have := (nI_ltI (by omega) (by omega)).mp q; omega
  simp [inB, h1, h2]
theorem plB_of {x : Int32} (h : plB x = true) : ∃ j, j < 64 ∧ x = nI j := inB_of (k := 63) (by decide) h
theorem moB_of {x : Int32} (h : moB x = true) : ∃ j, j < 100 ∧ x = nI j := inB_of (k := 99) (by decide) h
theorem plB_t {j : Nat} (h : j < 64) : plB (nI j) = true := inB_t (k := 63) (by omega) (by decide)
theorem moB_t {j : Nat} (h : j < 100) : moB (nI j) = true := inB_t (k := 99) (by omega) (by decide)
theorem stB_of {f l : Int32} {e : Nat} (he : e < 2147483648) (h : stB f l (nI e) = true) : ∃ a b, a ≤ b ∧ b < e ∧ f = nI a ∧ l = nI b := by
  simp only [stB, Bool.and_eq_true, Bool.not_eq_true', decide_eq_false_iff_not] at h
  obtain ⟨h1, h2, h3⟩ := h
  obtain ⟨a, ha, rfl⟩ := nI_of h1
  have h4 : ¬ l < 0 := fun q => h2 (by
    have : (0 : Int32) ≤ nI a := nI_pos' ha
    rw [Int32.lt_iff_toInt_lt] at q ⊢
    rw [Int32.le_iff_toInt_le] at this
    omega)
  obtain ⟨b, hb, rfl⟩ := nI_of h4
  exact ⟨a, b, Nat.not_lt.mp (fun q => h2 ((nI_ltI hb ha).mpr q)), Nat.not_le.mp (fun q => h3 ((nI_leI (by omega) hb).mpr q)), rfl, rfl⟩
theorem stB_t {a b e : Nat} (h : a ≤ b) (hb : b < e) (he : e < 2147483648) : stB (nI a) (nI b) (nI e) = true := by
  have h1 : ¬ nI a < 0 := nI_pos (by omega)
  have h2 : ¬ nI b < nI a := fun q => by have := (nI_ltI (by omega) (by omega)).mp q; omega
  have h3 : ¬ nI e ≤ nI b := fun q => by have := (nI_leI (by omega) (by omega)).mp q; omega
  simp [stB, h1, h2, h3]
/-- a number from 0 to k, one of them; or outside -/
theorem i32_upto (x : Int32) (k : Nat) (hk : k < 2147483647) : (∃ j, j ≤ k ∧ x = nI j) ∨ (x.toInt < 0 ∨ (k : Int) < x.toInt) := by
  by_cases h : x < 0
  · right; left; rw [Int32.lt_iff_toInt_lt] at h; simpa using h
  · obtain ⟨j, hj, rfl⟩ := nI_of h
    rw [nI_toInt hj]
    by_cases q : j ≤ k
    · exact Or.inl ⟨j, q, rfl⟩
    · right; right; omega
def rkP (T : Nat → Int32) (n mo x rk : Nat) (l : Nat) : Bool := cnt T l x mo && decide (rnk T l x mo n = rk)
def orN (k m : Nat) : Int32 := if k < m then nI k else -1
def rkV (T : Nat → Int32) (n mo x rk : Nat) : Int32 := orN (fst0 (rkP T n mo x rk) n) n
def rowV (T : Nat → Int32) (n mo ro wh : Nat) : Int32 := if ro < rc T n mo 64 then (if wh = 0 then nI (rowS T n mo ro) else if wh = 1 then nI (rowS T n mo (ro + 1)) - nI (rowS T n mo ro) else plo T n mo (rowS T n mo ro)) else -1
def sm (T : Nat → Int32) (n mo a : Nat) : Nat → Int32
  | 0 => nI 0
  | k + 1 => match lb T (a + k) mo (-1) n with
    | none => sm T n mo a k
    | some g => sm T n mo a k + pVal T g (a + k)
def ifa (T : Nat → Int32) (n mo : Nat) (sl off : Int32) : Nat → Nat
  | 0 => 0
  | x + 1 => match lb T x mo (-1) n with
    | none => ifa T n mo sl off x + 1
    | some g => if pVal T g x ≤ sl * nI x + off then ifa T n mo sl off x else ifa T n mo sl off x + 1
def hiB (T : Nat → Int32) (n mo : Nat) (sl : Int32) : Nat → Int32
  | 0 => -10000
  | x + 1 => match lb T x mo (-1) n with
    | none => hiB T n mo sl x
    | some g => if hiB T n mo sl x < pVal T g x - nI 1 - sl * nI x then pVal T g x - nI 1 - sl * nI x else hiB T n mo sl x
def bare (T : Nat → Int32) (n mo x : Nat) : Bool := decide (lb T x mo (-1) n = none)
def hiC (T : Nat → Int32) (n mo : Nat) (sl : Int32) : Int32 := if fst0 (bare T n mo) 64 < 64 then nI 9999 else (if nI 9999 < hiB T n mo sl 64 then nI 9999 else hiB T n mo sl 64)
def wo (T : Nat → Int32) (n mo l : Nat) : Nat → Option Int32
  | 0 => some (nI 0)
  | x + 1 => match wo T n mo l x with
    | none => none
    | some s => if plo T n mo x = nI l then (match lb T x mo (nI l) n with
        | none => none
        | some g => some (s + (pVal T g x - pVal T l x))) else some s
def woO : Option Int32 → Int32
  | none => -1
  | some s => s
def woV (T : Nat → Int32) (n mo l : Nat) : Int32 := woO (wo T n mo l 64)
def chP (T : Nat → Int32) (n mo x t : Nat) : Bool := decide (mo < t) && !decide (oI (lb T x t (-1) n) = plo T n mo x)
def chA (T : Nat → Int32) (n mo x : Nat) : Int32 := orN (fst0 (chP T n mo x) 100) 100
def meP (T : Nat → Int32) (a b x : Nat) : Bool := spB T a x && (spB T b x && low T b a x)
def meV (T : Nat → Int32) (a b : Nat) : Int32 := orN (fst0 (meP T a b) 64) 64
/-- Integer.bitCount, as its bytes compute it -/
def bc1 (i : Int32) : Int32 := i - (((i.toUInt32 >>> ((nI 1).toUInt32 &&& Int32.toUInt32 31)).toInt32) &&& 1431655765)
def bc2 (i : Int32) : Int32 := (i &&& 858993459) + (((i.toUInt32 >>> ((nI 2).toUInt32 &&& Int32.toUInt32 31)).toInt32) &&& 858993459)
def bc3 (i : Int32) : Int32 := (i + ((i.toUInt32 >>> ((nI 4).toUInt32 &&& Int32.toUInt32 31)).toInt32)) &&& 252645135
def bc4 (i : Int32) : Int32 := i + ((i.toUInt32 >>> ((nI 8).toUInt32 &&& Int32.toUInt32 31)).toInt32)
def bc5 (i : Int32) : Int32 := i + ((i.toUInt32 >>> ((nI 16).toUInt32 &&& Int32.toUInt32 31)).toInt32)
def bcI (i : Int32) : Int32 := bc5 (bc4 (bc3 (bc2 (bc1 i)))) &&& nI 63
def cntV (T : Nat → Int32) (n mo h wh : Nat) : Int32 :=
  if wh = 0 then nI mo else if wh = 1 then nI n else if wh = 2 then nI (lvc T mo n) else if wh = 3 then nI (rc T n mo 64) else if wh = 4 then nI (plc T n mo (-1) 64)
  else if wh = 5 then sts T n mo 128 else if wh = 6 then nI 127 - nI (nds T n mo (-1) 128) else if wh = 7 then bcI (nvr T n n) else nI h
def linV (T : Nat → Int32) (n mo l wh : Nat) : Int32 :=
  if wh = 6 then nI (plc T n mo (nI l) 64) else if wh = 7 then nI (nds T n mo (nI l) 128) else if wh = 8 then fmo T n l else T (l * 6 + wh)
def ndV (T : Nat → Int32) (n mo k wh : Nat) : Int32 :=
  if wh = 0 then kp T n mo k else if wh = 1 then nI (gF k) else if wh = 2 then nI (gL k) else if wh = 3 then nI ((gF k + gL k) / 2) else stp T n mo k
section PUB
variable {T : Nat → Int32} {n mo : Nat}
theorem orN_y {p : Nat → Bool} {m i : Nat} (hi : i < m) (hp : p i = true) (hn : ∀ j, j < i → p j = false) : nI i = orN (fst0 p m) m := by rw [fst0_is hi hp hn, orN, if_pos hi]
theorem orN_n {p : Nat → Bool} {m i : Nat} (hi : m ≤ i) (hn : ∀ j, j < i → p j = false) : (-1 : Int32) = orN (fst0 p m) m := by rw [fst0_end (fun j hj => hn j (by omega)), orN, if_neg (by omega)]
theorem rowS_lt {r : Nat} (h : r < rc T n mo 64) : rowS T n mo r < 64 := by
  obtain ⟨y, h1, h2, rfl⟩ := rc_at 64 h
  rw [rowS_at h1 h2]; exact h1
theorem plo_n {x : Nat} (h : lb T x mo (-1) n = none) : plo T n mo x = -1 := by rw [plo, h]; rfl
theorem plo_s {x g : Nat} (h : lb T x mo (-1) n = some g) : plo T n mo x = nI g := by rw [plo, h]; rfl
theorem plo_eq {x l : Nat} (hn : n ≤ 20) (hl : l < n) : plo T n mo x = nI l ↔ lb T x mo (-1) n = some l := by
  constructor
  · intro h
    cases hb : lb T x mo (-1) n with
    | none => rw [plo_n hb] at h; exact absurd h.symm (nI_ne1 (by omega))
    | some g =>
      rw [plo_s hb] at h
      have := lb_lt _ _ _ _ _ _ hb
      rw [(nI_eq (by omega) (by omega)).mp h]
  · exact plo_s
theorem sm_n {a k : Nat} (h : lb T (a + k) mo (-1) n = none) : sm T n mo a (k + 1) = sm T n mo a k := by
  show (match lb T (a + k) mo (-1) n with | none => sm T n mo a k | some g => sm T n mo a k + pVal T g (a + k)) = _
  rw [h]
theorem sm_s {a k g : Nat} (h : lb T (a + k) mo (-1) n = some g) : sm T n mo a (k + 1) = sm T n mo a k + pVal T g (a + k) := by
  show (match lb T (a + k) mo (-1) n with | none => sm T n mo a k | some g => sm T n mo a k + pVal T g (a + k)) = _
  rw [h]
theorem ifa_n {sl off : Int32} {x : Nat} (h : lb T x mo (-1) n = none) : ifa T n mo sl off (x + 1) = ifa T n mo sl off x + 1 := by
  show (match lb T x mo (-1) n with | none => ifa T n mo sl off x + 1 | some g => if pVal T g x ≤ sl * nI x + off then ifa T n mo sl off x else ifa T n mo sl off x + 1) = _
  rw [h]
theorem ifa_1 {sl off : Int32} {x g : Nat} (h : lb T x mo (-1) n = some g) (h2 : pVal T g x ≤ sl * nI x + off) : ifa T n mo sl off (x + 1) = ifa T n mo sl off x := by
  show (match lb T x mo (-1) n with | none => ifa T n mo sl off x + 1 | some g => if pVal T g x ≤ sl * nI x + off then ifa T n mo sl off x else ifa T n mo sl off x + 1) = _
  rw [h]; exact if_pos h2
theorem ifa_2 {sl off : Int32} {x g : Nat} (h : lb T x mo (-1) n = some g) (h2 : ¬ pVal T g x ≤ sl * nI x + off) : ifa T n mo sl off (x + 1) = ifa T n mo sl off x + 1 := by
  show (match lb T x mo (-1) n with | none => ifa T n mo sl off x + 1 | some g => if pVal T g x ≤ sl * nI x + off then ifa T n mo sl off x else ifa T n mo sl off x + 1) = _
  rw [h]; exact if_neg h2
theorem hiB_s {sl : Int32} {x g : Nat} (h : lb T x mo (-1) n = some g) : hiB T n mo sl (x + 1) = if hiB T n mo sl x < pVal T g x - nI 1 - sl * nI x then pVal T g x - nI 1 - sl * nI x else hiB T n mo sl x := by
  show (match lb T x mo (-1) n with | none => hiB T n mo sl x | some g => if hiB T n mo sl x < pVal T g x - nI 1 - sl * nI x then pVal T g x - nI 1 - sl * nI x else hiB T n mo sl x) = _
  rw [h]
theorem bare_y {x : Nat} (h : lb T x mo (-1) n = none) : bare T n mo x = true := by simp [bare, h]
theorem bare_n {x g : Nat} (h : lb T x mo (-1) n = some g) : bare T n mo x = false := by simp [bare, h]
theorem hiC_1 {sl : Int32} {x : Nat} (hx : x < 64) (h : lb T x mo (-1) n = none) : nI 9999 = hiC T n mo sl := by
  rw [hiC, if_pos]
  rcases Nat.lt_or_ge (fst0 (bare T n mo) 64) 64 with q | q
  · exact q
  · have := fst0_no (bare T n mo) 64 x (by omega)
    rw [bare_y h] at this; cases this
theorem hiC_2 {sl : Int32} {x : Nat} (hx : x = 64) (h : ∀ j, j < x → bare T n mo j = false) : (if nI 9999 < hiB T n mo sl x then nI 9999 else hiB T n mo sl x) = hiC T n mo sl := by
  subst hx
  have e : fst0 (bare T n mo) 64 = 64 := fst0_end h
  unfold hiC
  rw [e]
  exact (if_neg (Nat.lt_irrefl 64)).symm
theorem wo_a {l x : Nat} {s : Int32} (hs : wo T n mo l x = some s) (h : ¬ plo T n mo x = nI l) : wo T n mo l (x + 1) = some s := by
  show (match wo T n mo l x with | none => none | some s => if plo T n mo x = nI l then _ else some s) = _
  rw [hs]; exact if_neg h
theorem wo_b {l x g : Nat} {s : Int32} (hs : wo T n mo l x = some s) (h : plo T n mo x = nI l) (hg : lb T x mo (nI l) n = some g) : wo T n mo l (x + 1) = some (s + (pVal T g x - pVal T l x)) := by
  show (match wo T n mo l x with | none => none | some s => if plo T n mo x = nI l then (match lb T x mo (nI l) n with | none => none | some g => some (s + (pVal T g x - pVal T l x))) else some s) = _
  rw [hs]
  show (if plo T n mo x = nI l then (match lb T x mo (nI l) n with | none => none | some g => some (s + (pVal T g x - pVal T l x))) else some s) = _
  rw [if_pos h, hg]
theorem wo_c {l x : Nat} {s : Int32} (hs : wo T n mo l x = some s) (h : plo T n mo x = nI l) (hg : lb T x mo (nI l) n = none) : wo T n mo l (x + 1) = none := by
  show (match wo T n mo l x with | none => none | some s => if plo T n mo x = nI l then (match lb T x mo (nI l) n with | none => none | some g => some (s + (pVal T g x - pVal T l x))) else some s) = _
  rw [hs]
  show (if plo T n mo x = nI l then (match lb T x mo (nI l) n with | none => none | some g => some (s + (pVal T g x - pVal T l x))) else some s) = _
  rw [if_pos h, hg]
theorem wo_none {l : Nat} {x : Nat} (h : wo T n mo l x = none) : ∀ k, x ≤ k → wo T n mo l k = none
  | 0, hk => by rw [show x = 0 by omega] at h; cases h
  | k + 1, hk => by
    rcases Nat.lt_or_ge k x with q | q
    · rw [show k + 1 = x by omega]; exact h
    · show (match wo T n mo l k with | none => none | some s => if plo T n mo k = nI l then _ else some s) = none
      rw [wo_none h k q]
theorem woV_1 {l x : Nat} {s : Int32} (hx : x < 64) (hs : wo T n mo l x = some s) (h : plo T n mo x = nI l) (hg : lb T x mo (nI l) n = none) : (-1 : Int32) = woV T n mo l := by
  have e : wo T n mo l 64 = none := wo_none (wo_c hs h hg) 64 hx
  show (-1 : Int32) = woO (wo T n mo l 64)
  generalize wo T n mo l 64 = o at e
  rw [e]; rfl
theorem woV_2 {l x : Nat} {s : Int32} (hx : x = 64) (hs : wo T n mo l x = some s) : s = woV T n mo l := by
  subst hx
  show s = woO (wo T n mo l 64)
  generalize wo T n mo l 64 = o at hs
  rw [hs]; rfl
end PUB
end
section
/-! which exception a call of the face ends with (0: none), by its place in the order in which they are named -/
theorem plB_1 {x : Int32} (h : ¬ x < 0) (h2 : ¬ nI 64 ≤ x) : nI 1 = bI (plB x) := by
  have h3 : ¬ nI 63 < x := fun q => h2 ((i32_le_succ x (k := 63) (by decide)).mpr q)
  simp [plB, inB, bI, nI_0, h, h3]; rfl
theorem plB_2 {x : Int32} (h : x < 0) : nI 0 = bI (plB x) := by simp [plB, inB, bI, nI_0, h]
theorem plB_3 {x : Int32} (h2 : nI 64 ≤ x) : nI 0 = bI (plB x) := by
  have h3 : nI 63 < x := (i32_le_succ x (k := 63) (by decide)).mp h2
  simp [plB, inB, bI, nI_0, h3]
theorem moB_1 {x : Int32} (h : ¬ x < 0) (h2 : ¬ nI 100 ≤ x) : nI 1 = bI (moB x) := by
  have h3 : ¬ nI 99 < x := fun q => h2 ((i32_le_succ x (k := 99) (by decide)).mpr q)
  simp [moB, inB, bI, nI_0, h, h3]; rfl
theorem moB_2 {x : Int32} (h : x < 0) : nI 0 = bI (moB x) := by simp [moB, inB, bI, nI_0, h]
theorem moB_3 {x : Int32} (h2 : nI 100 ≤ x) : nI 0 = bI (moB x) := by
  have h3 : nI 99 < x := (i32_le_succ x (k := 99) (by decide)).mp h2
  simp [moB, inB, bI, nI_0, h3]
def xAdd (n : Nat) (sl off : Int32) : Nat := if slB sl = false then 1 else if ofB off = false then 1 else if 20 ≤ n then 2 else 0
def xStr (n : Nat) (line a b e : Int32) : Nat := if hasB n line = false then 1 else if stB a b e = false then 2 else 0
def xLift (T : Nat → Int32) (n : Nat) (line by_ : Int32) : Nat := if hasB n line = false then 1 else if ofB by_ = false then 2 else if ofB (T (line.toNatClampNeg * 6 + 1) + by_) = false then 3 else 0
def tuV (T : Nat → Int32) (line pl sl : Int32) : Int32 := pVal T line.toNatClampNeg pl.toNatClampNeg - sl * pl
def xTurn (T : Nat → Int32) (n : Nat) (line pl sl : Int32) : Nat := if hasB n line = false then 1 else if plB pl = false then 2 else if slB sl = false then 2 else if ofB (tuV T line pl sl) = false then 3 else 0
def xRem (n : Nat) (line : Int32) : Nat := if hasB n line = false then 1 else 0
def xGo (mm : Int32) : Nat := if moB mm = false then 1 else 0
def xUndo (h : Nat) : Nat := if h = 0 then 1 else 0
section NRM
variable {co : Nat → Int32} {len : Nat} {d d' : DT}
end NRM
end
section
theorem tsw6 {j : Nat} (h : j < 6) : (nI j).toInt < 6 ∨ (8 : Int) < (nI j).toInt := by rw [nI_toInt (by omega)]; omega
theorem lf_s {p : Nat → Bool} {i : Nat} (h : ∀ j, j < i → p j = false) (h2 : p i = false) : ∀ j, j < i + 1 → p j = false := fun j hj => (Nat.lt_or_ge j i).elim (fun q => h j q) (fun q => by rw [show j = i by omega]; exact h2)
theorem rnk_le (T : Nat → Int32) (l x t : Nat) : ∀ i, rnk T l x t i ≤ i + 1
  | 0 => by simp [rnk]
  | i + 1 => by have := rnk_le T l x t i; unfold rnk; split <;> omega
theorem ncl0 : (nI 0).toNatClampNeg = 0 := by decide
theorem ncl1 : (nI 1).toNatClampNeg = 1 := by decide
theorem ncl2 : (nI 2).toNatClampNeg = 2 := by decide
theorem ncl3 : (nI 3).toNatClampNeg = 3 := by decide
theorem ncl4 : (nI 4).toNatClampNeg = 4 := by decide
theorem ncl5 : (nI 5).toNatClampNeg = 5 := by decide
theorem ncl6 : (nI 6).toNatClampNeg = 6 := by decide
theorem ncl7 : (nI 7).toNatClampNeg = 7 := by decide
theorem ncl8 : (nI 8).toNatClampNeg = 8 := by decide
def xVal (T : Nat → Int32) (n mo : Nat) (x : Int32) : Nat := if plB x = false then 1 else if lb T x.toNatClampNeg mo (-1) n = none then 2 else 0
theorem gVal_s {T : Nat → Int32} {n mo x g : Nat} (h : lb T x mo (-1) n = some g) : pVal T g x = oV T x (lb T x mo (-1) n) := by rw [h]; rfl
/-! prune: the lines of the bits, from the last on -/
def bitB (nv : Int32) (j : Nat) : Bool := !decide ((nv >>> (nI j &&& 31)) &&& nI 1 = nI 0)
def prS (nv : Int32) (T : Nat → Int32) (n : Nat) : Nat → (Nat → Int32) × Nat × Nat
  | 0 => (T, n, 0)
  | m + 1 => if bitB nv (n - 1 - m) = true then (pDrop (prS nv T n m).1 (prS nv T n m).2.1 (n - 1 - m), (prS nv T n m).2.1 - 1, (prS nv T n m).2.2 + 1) else prS nv T n m
theorem prS_n (nv : Int32) (T : Nat → Int32) (n : Nat) : ∀ m, m ≤ n → n - m ≤ (prS nv T n m).2.1 ∧ (prS nv T n m).2.1 ≤ n ∧ (prS nv T n m).2.1 + (prS nv T n m).2.2 = n
  | 0, _ => ⟨Nat.le_refl _, Nat.le_refl _, rfl⟩
  | m + 1, h => by
    have ih := prS_n nv T n m (by omega)
    unfold prS
    split
    · show n - (m + 1) ≤ (prS nv T n m).2.1 - 1 ∧ (prS nv T n m).2.1 - 1 ≤ n ∧ (prS nv T n m).2.1 - 1 + ((prS nv T n m).2.2 + 1) = n
      omega
    · omega
theorem prS_y {nv : Int32} {T : Nat → Int32} {n j : Nat} (hj : j < n) (h : ¬ (nv >>> (nI j &&& 31)) &&& nI 1 = nI 0) : (pDrop (prS nv T n (n - (j + 1))).1 (prS nv T n (n - (j + 1))).2.1 j, (prS nv T n (n - (j + 1))).2.1 - 1, (prS nv T n (n - (j + 1))).2.2 + 1) = prS nv T n (n - j) := by
  have e : n - 1 - (n - (j + 1)) = j := by omega
  rw [show n - j = n - (j + 1) + 1 by omega, prS, e, if_pos (by simp [bitB, h])]
theorem prS_x {nv : Int32} {T : Nat → Int32} {n j : Nat} (hj : j < n) (h : (nv >>> (nI j &&& 31)) &&& nI 1 = nI 0) : prS nv T n (n - (j + 1)) = prS nv T n (n - j) := by
  have e : n - 1 - (n - (j + 1)) = j := by omega
  rw [show n - j = n - (j + 1) + 1 by omega, prS, e, if_neg (by simp [bitB, h])]
theorem prL_y {nv : Int32} {T : Nat → Int32} {n j mo ver : Nat} (hj : j < n) (h : ¬ (nv >>> (nI j &&& 31)) &&& nI 1 = nI 0) : (pDrop (prS nv T n (n - (j + 1))).1 (prS nv T n (n - (j + 1))).2.1 j, (prS nv T n (n - (j + 1))).2.1 - 1, mo, ver + (prS nv T n (n - (j + 1))).2.2 + 1) = ((prS nv T n (n - j)).1, (prS nv T n (n - j)).2.1, mo, ver + (prS nv T n (n - j)).2.2) := by
  rw [← prS_y hj h]; rfl
theorem prL_x {nv : Int32} {T : Nat → Int32} {n j mo ver : Nat} (hj : j < n) (h : (nv >>> (nI j &&& 31)) &&& nI 1 = nI 0) : ((prS nv T n (n - (j + 1))).1, (prS nv T n (n - (j + 1))).2.1, mo, ver + (prS nv T n (n - (j + 1))).2.2) = ((prS nv T n (n - j)).1, (prS nv T n (n - j)).2.1, mo, ver + (prS nv T n (n - j)).2.2) := by
  rw [← prS_x hj h]
theorem pm_lt {k : Nat} {iv : Int32} (hk : k ≤ 20) (h : iv = nI k - nI 1) (h2 : iv < nI 0) : k = 0 := by
  rcases Nat.eq_zero_or_pos k with q | q
  · exact q
  · obtain ⟨j, rfl⟩ : ∃ j, k = j + 1 := ⟨k - 1, by omega⟩
    rw [h, pk_sub (by omega), Nat.add_sub_cancel] at h2
    exact absurd h2 (nI_pos (by omega))
theorem pm_ge {k : Nat} {iv : Int32} (h : iv = nI k - nI 1) (h2 : ¬ iv < nI 0) : ∃ j, k = j + 1 ∧ iv = nI j := by
  rcases Nat.eq_zero_or_pos k with q | q
  · subst q; exact absurd (h ▸ (by decide : nI 0 - nI 1 < nI 0)) h2
  · exact ⟨k - 1, by omega, by rw [h, pk_sub (by omega)]⟩
theorem pm_st {j : Nat} : nI j + (-1) = nI j - nI 1 := by rw [Int32.sub_eq_add_neg, show -nI 1 = (-1 : Int32) by decide]
end
section
/-! the model's tree against the class's: a line goes down from each of its nodes -/
def hA (T : Nat → Int32) (l k : Nat) : Bool := decide (T (l * 6 + 2) ≤ nI (gF k)) && decide (nI (gL k) ≤ T (l * 6 + 3))
section GD
variable {T : Nat → Int32} {n : Nat}
end GD
end
section
section GDS
variable {T : Nat → Int32} {f l k g : Nat} {ke sp : Nat → Int32}
theorem ntb {b : Bool} (h : b = false) : ¬ b = true := by rw [h]; decide
end GDS
end
section
/-! the first moments, the lines that are never lowest -/
def isx (T : Nat → Int32) (n l t x : Nat) : Bool := decide (lb T x t (-1) n = some l)
def anx (T : Nat → Int32) (n l t : Nat) : Bool := decide (fst0 (isx T n l t) 64 < 64)
def fmM (T : Nat → Int32) (n l : Nat) : Int32 := orN (fst0 (anx T n l) 100) 100
section FM
variable {T : Nat → Int32} {n l t x : Nat}
theorem lb_cong {t' : Nat} {out : Int32} : ∀ i, (∀ j, j < i → cnt T j x t = cnt T j x t') → lb T x t out i = lb T x t' out i
  | 0, _ => rfl
  | i + 1, h => by rw [lb, lb, lb_cong i (fun j hj => h j (by omega)), h i (by omega)]
theorem lb_cnt {out : Int32} {g : Nat} : ∀ i, lb T x t out i = some g → cnt T g x t = true
  | 0, h => by cases h
  | i + 1, h => by
    rw [lb] at h
    split at h
    · exact lb_cnt i h
    · split at h
      · exact lb_cnt i h
      · rename_i hc
        have hc : cnt T i x t = true := by simpa using hc
        split at h
        · cases h; exact hc
        · rename_i g' hg'
          split at h
          · cases h; exact lb_cnt i hg'
          · cases h; exact hc
theorem lb_nil {out : Int32} : ∀ i, (∀ j, j < i → cnt T j x t = false) → lb T x t out i = none
  | 0, _ => rfl
  | i + 1, h => by rw [lb_b (h i (by omega)), lb_nil i (fun j hj => h j (by omega))]
theorem anx_y (hx : x < 64) (h : lb T x t (-1) n = some l) : anx T n l t = true := by
  simp only [anx, decide_eq_true_eq]
  rcases Nat.lt_or_ge (fst0 (isx T n l t) 64) 64 with q | q
  · exact q
  · have := fst0_no (isx T n l t) 64 x (by omega)
    simp [isx, h] at this
theorem anx_n (h : ∀ x, x < 64 → isx T n l t x = false) : anx T n l t = false := by
  simp only [anx, decide_eq_false_iff_not]
  rw [fst0_end h]; omega
theorem chg_of : ∀ i, chg T t i = false → ∀ j, j < i → lvB T j (nI t) = lvB T j (nI t - nI 1)
  | 0, _, j, hj => absurd hj (Nat.not_lt_zero j)
  | i + 1, h, j, hj => by
    rw [chg, Bool.or_eq_false_iff] at h
    rcases Nat.lt_or_ge j i with q | q
    · exact chg_of i h.1 j q
    · rw [show j = i by omega]
      simpa using h.2
theorem anx_chg (hT : TOK T n) (h : chg T t n = false) : (t = 0 → anx T n l t = false) ∧ (0 < t → anx T n l t = anx T n l (t - 1)) := by
  have h1 := chg_of n h
  refine ⟨fun h0 => ?_, fun h0 => ?_⟩
  · subst h0
    refine anx_n (fun x hx => ?_)
    have : lb T x 0 (-1) n = none := lb_nil n (fun j hj => by
      obtain ⟨-, -, -, a, b, ea, eb, hab, hb⟩ := hT j hj
      have e : nI 0 - nI 1 = (-1 : Int32) := by decide
      have e2 : lvB T j (-1) = false := by
        have : (-1 : Int32) < nI a := by
          rw [Int32.lt_iff_toInt_lt, nI_toInt (by omega)]
          have : (-1 : Int32).toInt = -1 := by decide
          omega
        simp [lvB, inB, ea, this]
      rw [cnt, h1 j hj, e, e2, Bool.and_false])
    simp [isx, this]
  · have e : ∀ x, lb T x t (-1) n = lb T x (t - 1) (-1) n := fun x => lb_cong n (fun j hj => by
      rw [cnt, cnt, h1 j hj, pk_sub h0])
    have e2 : isx T n l t = isx T n l (t - 1) := funext fun x => by rw [isx, isx, e x]
    rw [anx, anx, e2]
theorem nt_val {f : Nat → Int32} {g : Nat} (ht : t < 2 ^ 31) : ∀ x, nt T n t f x g = if f g = -1 ∧ fst0 (isx T n g t) x < x then nI t else f g
  | 0 => by rw [if_neg (fun q => by have := q.2; omega)]; rfl
  | x + 1 => by
    have ih := nt_val (f := f) (g := g) ht x
    have hle := fst0_le (isx T n g t) x
    have hs : fst0 (isx T n g t) (x + 1) < x + 1 ↔ fst0 (isx T n g t) x < x ∨ isx T n g t x = true := by
      rw [fst0]
      by_cases a : fst0 (isx T n g t) x < x
      · rw [if_pos a]; exact ⟨fun _ => Or.inl a, fun _ => by omega⟩
      · rw [if_neg a]
        by_cases b : isx T n g t x = true
        · rw [if_pos b]; exact ⟨fun _ => Or.inr b, fun _ => by omega⟩
        · rw [if_neg b]; exact ⟨fun q => by omega, fun q => q.elim (fun w => absurd w a) (fun w => absurd w b)⟩
    have key : nt T n t f (x + 1) g = if nt T n t f x g = -1 ∧ isx T n g t x = true then nI t else nt T n t f x g := by
      cases hb : lb T x t (-1) n with
      | none => rw [← nt_0 hb, if_neg (fun q => by have := q.2; simp [isx, hb] at this)]
      | some k =>
        by_cases hk : k = g
        · subst hk
          have hi : isx T n k t x = true := by simp [isx, hb]
          by_cases h1 : nt T n t f x k = -1
          · rw [← nt_1 hb h1, upd_s, if_pos ⟨h1, hi⟩]
          · rw [← nt_2 hb h1, if_neg (fun q => h1 q.1)]
        · have hi : ¬ isx T n g t x = true := by simp [isx, hb, hk]
          rw [if_neg (fun q => hi q.2)]
          by_cases h1 : nt T n t f x k = -1
          · rw [← nt_1 hb h1, upd_n (fun q => hk q.symm)]
          · rw [← nt_2 hb h1]
    rw [key, ih]
    have hne := nI_ne1 ht
    by_cases a : f g = -1 <;> by_cases b : fst0 (isx T n g t) x < x <;> by_cases c : isx T n g t x = true <;> simp [a, b, c, hne, hs]
theorem rn_val (hT : TOK T n) (g : Nat) : ∀ t, t ≤ 100 → rn T n (fun _ => -1) t g = orN (fst0 (anx T n g) t) t
  | 0, _ => rfl
  | t + 1, ht => by
    have ih := rn_val hT g t (by omega)
    have hle := fst0_le (anx T n g) t
    have hs : anx T n g t = true → fst0 (anx T n g) t = t → orN (fst0 (anx T n g) (t + 1)) (t + 1) = nI t := fun a b => by
      rw [fst0, if_neg (by omega), if_pos a, orN, if_pos (by omega)]
    have hk : fst0 (anx T n g) t < t → orN (fst0 (anx T n g) (t + 1)) (t + 1) = orN (fst0 (anx T n g) t) t := fun a => by
      rw [fst0, if_pos a, orN, orN, if_pos (by omega), if_pos a]
    have hz : anx T n g t = false → ¬ fst0 (anx T n g) t < t → orN (fst0 (anx T n g) (t + 1)) (t + 1) = orN (fst0 (anx T n g) t) t := fun a b => by
      rw [fst0, if_neg b, if_neg (ntb a), orN, orN, if_neg (by omega), if_neg b]
    have hv : fst0 (anx T n g) t < t → ¬ orN (fst0 (anx T n g) t) t = -1 := fun a => by rw [orN, if_pos a]; exact nI_ne1 (by omega)
    have hv2 : ¬ fst0 (anx T n g) t < t → orN (fst0 (anx T n g) t) t = -1 := fun a => by rw [orN, if_neg a]
    by_cases hc : chg T t n = true
    · rw [← rn_1 hc, nt_val (by omega), ih]
      by_cases a : fst0 (anx T n g) t < t
      · rw [if_neg (fun q => hv a q.1), hk a]
      · by_cases b : anx T n g t = true
        · rw [if_pos ⟨hv2 a, by simpa [anx] using b⟩, hs b (by omega)]
        · rw [if_neg (fun q => b (by simpa [anx] using q.2)), hz (by simpa using b) a]
    · have hc : chg T t n = false := by simpa using hc
      rw [← rn_0 hc, ih]
      obtain ⟨c1, c2⟩ := anx_chg (l := g) hT hc
      by_cases a : fst0 (anx T n g) t < t
      · rw [hk a]
      · have : anx T n g t = false := by
          rcases Nat.eq_zero_or_pos t with q | q
          · exact c1 q
          · rw [c2 q]; exact fst0_no _ t (t - 1) (by omega)
        rw [hz this a]
theorem fmo_eq (hT : TOK T n) (g : Nat) : fmo T n g = fmM T n g := rn_val hT g 100 (Nat.le_refl _)
end FM
end
section
def n2 (v : Nat) : Nat := (v &&& 858993459) + ((v / 4) &&& 858993459)
def o1 (m v : Nat) : Nat := v - ((v / 2) &&& m)
def o2 (m v : Nat) : Nat := (v &&& m) + ((v / 4) &&& m)
def o3 (m v : Nat) : Nat := (v + v / 16) &&& m
section PM
variable {T : Nat → Int32} {n mo l k w c : Nat}
end PM
end
section
/-! p31: what the law says of the lines, of plain functions -/
section LBX
variable {T : Nat → Int32} {x t n mo : Nat} {out : Int32}
theorem nI_neO {i : Nat} (h : i < 2 ^ 31) : ¬ nI i = (-1 : Int32) := nI_ne1 h
/-- what the lowest line is -/
def LBS (T : Nat → Int32) (x t : Nat) (out : Int32) (i : Nat) : Option Nat → Prop
  | none => ∀ j, j < i → ¬ nI j = out → cnt T j x t = false
  | some g => g < i ∧ ¬ nI g = out ∧ cnt T g x t = true ∧ ∀ j, j < i → ¬ nI j = out → cnt T j x t = true → (pVal T g x).toInt < (pVal T j x).toInt ∨ ((pVal T g x).toInt = (pVal T j x).toInt ∧ g ≤ j)
theorem lb_spec (T : Nat → Int32) (x t : Nat) (out : Int32) : ∀ i, LBS T x t out i (lb T x t out i)
  | 0 => fun j hj => absurd hj (Nat.not_lt_zero j)
  | i + 1 => by
    have ih := lb_spec T x t out i
    have keep : (¬ nI i = out → cnt T i x t = false) → LBS T x t out (i + 1) (lb T x t out i) := fun hq => by
      revert ih
      cases lb T x t out i with
      | none =>
        intro ih j hj ho
        rcases Nat.lt_or_ge j i with q | q
        · exact ih j q ho
        · have e : j = i := by omega
          subst e; exact hq ho
      | some g =>
        intro ih
        obtain ⟨h1, h2, h3, h4⟩ := ih
        refine ⟨by omega, h2, h3, fun j hj ho hc => ?_⟩
        rcases Nat.lt_or_ge j i with q | q
        · exact h4 j q ho hc
        · have e : j = i := by omega
          subst e; rw [hq ho] at hc; cases hc
    rw [lb]
    split
    · rename_i h; exact keep (fun q => absurd h q)
    · rename_i h
      split
      · rename_i hc; exact keep (fun _ => hc)
      · rename_i hc
        have hc : cnt T i x t = true := by simpa using hc
        revert ih
        cases lb T x t out i with
        | none =>
          intro ih
          refine ⟨Nat.lt_succ_self i, h, hc, fun j hj ho hcj => ?_⟩
          rcases Nat.lt_or_ge j i with q | q
          · rw [ih j q ho] at hcj; cases hcj
          · have e : j = i := by omega
            subst e; exact Or.inr ⟨rfl, Nat.le_refl _⟩
        | some g =>
          intro ih
          obtain ⟨h1, h2, h3, h4⟩ := ih
          show LBS T x t out (i + 1) (if pVal T g x ≤ pVal T i x then some g else some i)
          split
          · rename_i hle
            rw [Int32.le_iff_toInt_le] at hle
            refine ⟨by omega, h2, h3, fun j hj ho hcj => ?_⟩
            rcases Nat.lt_or_ge j i with q | q
            · exact h4 j q ho hcj
            · have e : j = i := by omega
              subst e; omega
          · rename_i hle
            rw [Int32.le_iff_toInt_le] at hle
            refine ⟨Nat.lt_succ_self i, h, hc, fun j hj ho hcj => ?_⟩
            rcases Nat.lt_or_ge j i with q | q
            · have := h4 j q ho hcj; left; omega
            · have e : j = i := by omega
              subst e; exact Or.inr ⟨rfl, Nat.le_refl _⟩
theorem lb_some {i g : Nat} (h : lb T x t out i = some g) : g < i ∧ ¬ nI g = out ∧ cnt T g x t = true ∧ ∀ j, j < i → ¬ nI j = out → cnt T j x t = true → (pVal T g x).toInt < (pVal T j x).toInt ∨ ((pVal T g x).toInt = (pVal T j x).toInt ∧ g ≤ j) := by
  have := lb_spec T x t out i
  rw [h] at this; exact this
theorem lb_none {i : Nat} (h : lb T x t out i = none) : ∀ j, j < i → ¬ nI j = out → cnt T j x t = false := by
  have := lb_spec T x t out i
  rw [h] at this; exact this
/-! ranks -/
theorem rnk_pos {l i : Nat} : ∀ m, i < m → cnt T i x t = true → low T i l x = true → 0 < rnk T l x t m
  | 0, h, _, _ => absurd h (Nat.not_lt_zero i)
  | m + 1, h, h1, h2 => by
    rw [rnk]
    rcases Nat.lt_or_ge i m with q | q
    · have := rnk_pos m q h1 h2; omega
    · have e : i = m := by omega
      subst e
      rw [if_pos ⟨h1, h2⟩]; omega
theorem rnk_zero {l : Nat} : ∀ m, (∀ i, i < m → cnt T i x t = true → low T i l x = false) → rnk T l x t m = 0
  | 0, _ => rfl
  | m + 1, h => by
    rw [rnk, rnk_zero m (fun i hi => h i (by omega)), if_neg]
    rintro ⟨h1, h2⟩
    rw [h m (Nat.lt_succ_self m) h1] at h2; cases h2
theorem low_int {l o : Nat} : low T l o x = true ↔ (pVal T l x).toInt < (pVal T o x).toInt ∨ ((pVal T l x).toInt = (pVal T o x).toInt ∧ l < o) := by
  simp only [low, Bool.or_eq_true, Bool.and_eq_true, decide_eq_true_eq]
  rw [Int32.lt_iff_toInt_lt, Int32.toInt_inj]
theorem rnk_low {g : Nat} (hn : n ≤ 20) (h : lb T x t (-1) n = some g) : rnk T g x t n = 0 ∧ ∀ j, j < n → ¬ j = g → cnt T j x t = true → 0 < rnk T j x t n := by
  obtain ⟨h1, h2, h3, h4⟩ := lb_some h
  refine ⟨rnk_zero n (fun i hi hc => ?_), fun j hj hne hc => rnk_pos n h1 h3 (low_int.mpr ?_)⟩
  · have := h4 i hi (nI_neO (by omega)) hc
    cases hl : low T i g x with
    | false => rfl
    | true => have := low_int.mp hl; omega
  · have := h4 j hj (nI_neO (by omega)) hc
    omega
theorem rkV_0 (hn : n ≤ 20) : rkV T n mo x 0 = plo T n mo x := by
  cases h : lb T x mo (-1) n with
  | none =>
    rw [plo_n h]
    exact (orN_n (Nat.le_refl n) (fun j hj => by simp [rkP, lb_none h j hj (nI_neO (by omega))])).symm
  | some g =>
    obtain ⟨h1, h2, h3, -⟩ := lb_some h
    obtain ⟨h5, h6⟩ := rnk_low hn h
    rw [plo_s h]
    refine (orN_y h1 (by simp [rkP, h3, h5]) (fun j hj => ?_)).symm
    cases hc : cnt T j x mo with
    | false => simp [rkP, hc]
    | true =>
      have := h6 j (by omega) (by omega) hc
      simp only [rkP, hc, Bool.true_and, decide_eq_false_iff_not]; omega
theorem rkV_1 (hn : n ≤ 20) : rkV T n mo x 1 = -1 ∨ ∃ k g : Nat, k < n ∧ rkV T n mo x 1 = nI k ∧ lb T x mo (-1) n = some g ∧ g < n ∧ ¬ k = g ∧ pVal T g x ≤ pVal T k x := by
  rcases Nat.lt_or_ge (fst0 (rkP T n mo x 1) n) n with q | q
  · right
    have hp := fst0_yes _ _ q
    rw [rkV, orN, if_pos q]
    generalize fst0 (rkP T n mo x 1) n = k at hp q ⊢
    simp only [rkP, Bool.and_eq_true, decide_eq_true_eq] at hp
    obtain ⟨hc, hr⟩ := hp
    cases h : lb T x mo (-1) n with
    | none => rw [lb_none h k q (nI_neO (by omega))] at hc; cases hc
    | some g =>
      obtain ⟨h1, h2, h3, h4⟩ := lb_some h
      refine ⟨k, g, q, rfl, rfl, h1, fun e => ?_, ?_⟩
      · subst e; have := (rnk_low hn h).1; omega
      · rw [Int32.le_iff_toInt_le]
        have := h4 k q (nI_neO (by omega)) hc; omega
  · left; rw [rkV, orN, if_neg (by omega)]
/-! rows -/
theorem rowS_y {k : Nat} (hk : k < rc T n mo 64) : rowS T n mo k < 64 ∧ beg T n mo (rowS T n mo k) = true ∧ rc T n mo (rowS T n mo k) = k := by
  obtain ⟨y, h1, h2, rfl⟩ := rc_at 64 hk
  rw [rowS_at h1 h2]; exact ⟨h1, h2, rfl⟩
theorem rowS_nx {k z : Nat} (hk : k < rc T n mo 64) (hz : z < rowS T n mo (k + 1)) (hz64 : z < 64) (hb : beg T n mo z = true) : rc T n mo z ≤ k := by
  rcases Nat.lt_or_ge (k + 1) (rc T n mo 64) with q | q
  · obtain ⟨h1, h2, h3⟩ := rowS_y q
    have := rc_lt (x := rowS T n mo (k + 1)) hb hz
    omega
  · have := rc_lt (x := 64) hb hz64
    omega
theorem rowS_end' {k : Nat} (hk : k < rc T n mo 64) (h : ¬ k + 1 < rc T n mo 64) : rowS T n mo (k + 1) = 64 := by
  rw [show k + 1 = rc T n mo 64 by omega, rowS_end]
theorem rowS_step {k : Nat} (hk : k < rc T n mo 64) : rowS T n mo k < rowS T n mo (k + 1) ∧ rowS T n mo (k + 1) ≤ 64 := by
  obtain ⟨h1, h2, h3⟩ := rowS_y hk
  by_cases q : k + 1 < rc T n mo 64
  · obtain ⟨g1, g2, g3⟩ := rowS_y q
    refine ⟨?_, by omega⟩
    rcases Nat.lt_or_ge (rowS T n mo k) (rowS T n mo (k + 1)) with w | w
    · exact w
    · have := rc_mono T n mo _ _ w; omega
  · rw [rowS_end' hk q]; omega
theorem rowS_c {k : Nat} (hk : k < rc T n mo 64) (d : Nat) : rowS T n mo k + d < rowS T n mo (k + 1) → plo T n mo (rowS T n mo k + d) = plo T n mo (rowS T n mo k) := by
  obtain ⟨s1, s2⟩ := rowS_step hk
  obtain ⟨h1, h2, h3⟩ := rowS_y hk
  generalize hy : rowS T n mo k = y at *
  induction d with
  | zero => exact fun _ => rfl
  | succ d ih =>
    intro h
    have ih := ih (by omega)
    have hb : beg T n mo (y + (d + 1)) = false := by
      cases hb : beg T n mo (y + (d + 1)) with
      | false => rfl
      | true =>
        have g1 := rowS_nx hk h (by omega) hb
        have g2 := rc_lt (x := y + (d + 1)) h2 (by omega)
        omega
    simp only [beg, Bool.or_eq_false_iff, decide_eq_false_iff_not, Bool.not_eq_false', decide_eq_true_eq] at hb
    rw [hb.2, show y + (d + 1) - 1 = y + d by omega, ih]
theorem rowS_const {k x : Nat} (hk : k < rc T n mo 64) (h1 : rowS T n mo k ≤ x) (h2 : x < rowS T n mo (k + 1)) : plo T n mo x = plo T n mo (rowS T n mo k) := by
  have := rowS_c hk (x - rowS T n mo k) (by omega)
  rw [show rowS T n mo k + (x - rowS T n mo k) = x by omega] at this; exact this
theorem beg_00 : beg T n mo 0 = true := by simp [beg]
theorem rowS_0 : rowS T n mo 0 = 0 := rowS_at (x := 0) (by decide) beg_00
theorem rc_pos : 0 < rc T n mo 64 := rc_lt (y := 0) (x := 64) beg_00 (by decide)
theorem plo_ge (hn : n ≤ 20) (x : Nat) : ¬ plo T n mo x = -2 := by
  intro q
  cases h : lb T x mo (-1) n with
  | none => rw [plo_n h] at q; exact absurd q (by decide)
  | some g =>
    have := lb_lt _ _ _ _ _ _ h
    rw [plo_s h] at q
    have q2 : (nI g).toInt = (-2 : Int32).toInt := congrArg Int32.toInt q
    have e : (-2 : Int32).toInt = -2 := by decide
    rw [nI_toInt (by omega)] at q2; omega
theorem row_ne {k : Nat} (hk : k < rc T n mo 64) (h2 : k + 1 < rc T n mo 64) : ¬ plo T n mo (rowS T n mo (k + 1)) = plo T n mo (rowS T n mo k) := by
  obtain ⟨s1, s2⟩ := rowS_step hk
  obtain ⟨h1, hb, h3⟩ := rowS_y h2
  simp only [beg, Bool.or_eq_true, decide_eq_true_eq, Bool.not_eq_true', decide_eq_false_iff_not] at hb
  rcases hb with q | q
  · omega
  · rw [rowS_const hk (by omega) (by omega : rowS T n mo (k + 1) - 1 < rowS T n mo (k + 1))] at q; exact q
end LBX
end
section
/-! p31: what a line is worth, first moments, the tree's nodes and steps, sums over the lines -/
section WRT
variable {T : Nat → Int32} {n mo : Nat}
theorem wo_rng (hn : n ≤ 20) (hT : TOK T n) {l : Nat} (hl : l < n) : ∀ x s, x ≤ 64 → wo T n mo l x = some s → 0 ≤ s.toInt ∧ s.toInt ≤ 32472 * (x : Int)
  | 0, s, _, h => by
    cases h
    have e : (nI 0).toInt = 0 := by decide
    rw [e]; omega
  | x + 1, s, hx, h => by
    cases hw : wo T n mo l x with
    | none => rw [wo, hw] at h; cases h
    | some s0 =>
      have ih := wo_rng hn hT hl x s0 (by omega) hw
      rw [wo, hw] at h
      by_cases hp : plo T n mo x = nI l
      · have h : (match lb T x mo (nI l) n with | none => none | some g => some (s0 + (pVal T g x - pVal T l x))) = some s := by
          rw [← h]; exact (if_pos hp).symm
        cases hg : lb T x mo (nI l) n with
        | none => rw [hg] at h; cases h
        | some g =>
          rw [hg] at h
          cases h
          obtain ⟨g1, g2, g3, -⟩ := lb_some hg
          cases h0 : lb T x mo (-1) n with
          | none => rw [lb_none h0 g g1 (nI_neO (by omega))] at g3; cases g3
          | some q =>
            obtain ⟨q1, q2, q3, q4⟩ := lb_some h0
            rw [plo_s h0] at hp
            have e : q = l := (nI_eq (by omega) (by omega)).mp hp
            subst e
            have h5 := q4 g g1 (nI_neO (by omega)) g3
            obtain ⟨-, a1, a2⟩ := pVal_eq (hT g g1) (show x < 64 by omega)
            obtain ⟨-, b1, b2⟩ := pVal_eq (hT q q1) (show x < 64 by omega)
            have e1 : (pVal T g x - pVal T q x).toInt = (pVal T g x).toInt - (pVal T q x).toInt := i32_sub (by omega) (by omega)
            have e2 : (s0 + (pVal T g x - pVal T q x)).toInt = s0.toInt + ((pVal T g x).toInt - (pVal T q x).toInt) := by
              rw [i32_add (by rw [e1]; omega) (by rw [e1]; omega), e1]
            rw [e2]; omega
      · have h : some s0 = some s := by rw [← h]; exact (if_neg hp).symm
        cases h; omega
theorem woV_ge (hn : n ≤ 20) (hT : TOK T n) {l : Nat} (hl : l < n) : ¬ woV T n mo l < -1 := by
  rw [woV]
  cases h : wo T n mo l 64 with
  | none => decide
  | some s =>
    have := wo_rng hn hT hl 64 s (by decide) h
    show ¬ s < -1
    rw [Int32.lt_iff_toInt_lt]
    have e : (-1 : Int32).toInt = -1 := by decide
    omega
/-! places of a line, first moments -/
theorem plc_0 {ln : Int32} : ∀ m, (∀ x, x < m → ¬ plo T n mo x = ln) → plc T n mo ln m = 0
  | 0, _ => rfl
  | m + 1, h => by rw [plc, plc_0 m (fun x hx => h x (by omega)), if_neg (h m (Nat.lt_succ_self m))]
theorem plc_b {ln : Int32} : ∀ m, plc T n mo ln m ≤ m
  | 0 => Nat.le_refl _
  | m + 1 => by have := plc_b (ln := ln) m; rw [plc]; split <;> omega
theorem plc_dead {l : Nat} (hn : n ≤ 20) (hl : l < n) (h : lvB T l (nI mo) = false) : plc T n mo (nI l) 64 = 0 := plc_0 64 (fun x hx q => by
  have h1 := (plo_eq hn hl).mp q
  have h2 := (lb_some h1).2.2.1
  rw [cnt, h, Bool.and_false] at h2; cases h2)
theorem fmo_in (hn : n ≤ 20) (hT : TOK T n) (hmo : mo < 100) {l : Nat} (hl : l < n) (h : ¬ plc T n mo (nI l) 64 = 0) : ∃ t : Nat, t ≤ mo ∧ fmo T n l = nI t := by
  have hx : ∃ x, x < 64 ∧ plo T n mo x = nI l := Classical.byContradiction (fun q => h (plc_0 64 (fun x hx e => q ⟨x, hx, e⟩)))
  obtain ⟨x, hx, e⟩ := hx
  have ha := anx_y hx ((plo_eq hn hl).mp e)
  rw [fmo_eq hT, fmM]
  have hle : fst0 (anx T n l) 100 ≤ mo := by
    rcases Nat.lt_or_ge mo (fst0 (anx T n l) 100) with q | q
    · have := fst0_no _ _ _ q; rw [ha] at this; cases this
    · exact q
  exact ⟨_, hle, by rw [orN, if_pos (by omega)]⟩
/-! sums over the lines -/
def sumN (f : Nat → Nat) : Nat → Nat
  | 0 => 0
  | i + 1 => sumN f i + f i
theorem sumN_cong {f g : Nat → Nat} : ∀ m, (∀ i, i < m → f i = g i) → sumN f m = sumN g m
  | 0, _ => rfl
  | m + 1, h => by rw [sumN, sumN, sumN_cong m (fun i hi => h i (by omega)), h m (Nat.lt_succ_self m)]
theorem sumN_miss {a : Nat → Nat} {v : Int32} : ∀ m, (∀ i, i < m → ¬ v = nI i) → sumN (fun i => a i + if v = nI i then 1 else 0) m = sumN a m
  | 0, _ => rfl
  | m + 1, h => by rw [sumN, sumN, sumN_miss m (fun i hi => h i (by omega)), if_neg (h m (Nat.lt_succ_self m))]; rfl
theorem sumN_hit {a : Nat → Nat} {g : Nat} : ∀ m, m ≤ 20 → g < m → sumN (fun i => a i + if nI g = nI i then 1 else 0) m = sumN a m + 1
  | 0, _, h => absurd h (Nat.not_lt_zero g)
  | m + 1, hm, h => by
    rw [sumN, sumN]
    rcases Nat.lt_or_ge g m with q | q
    · rw [sumN_hit m (by omega) q, if_neg (fun e => by have := (nI_eq (by omega) (by omega)).mp e; omega)]; omega
    · have e : g = m := by omega
      subst e
      rw [if_pos rfl, sumN_miss g (fun i hi e => by have := (nI_eq (by omega) (by omega)).mp e; omega)]; omega
theorem sum_plc (hn : n ≤ 20) : ∀ x, sumN (fun l => plc T n mo (nI l) x) n + plc T n mo (-1) x = x
  | 0 => by
    show sumN (fun l => 0) n + 0 = 0
    have : ∀ m, sumN (fun _ => 0) m = 0 := fun m => by induction m with
      | zero => rfl
      | succ m ih => rw [sumN, ih]
    rw [this]
  | x + 1 => by
    have ih := sum_plc hn x
    show sumN (fun l => plc T n mo (nI l) x + if plo T n mo x = nI l then 1 else 0) n + (plc T n mo (-1) x + if plo T n mo x = -1 then 1 else 0) = x + 1
    cases h : lb T x mo (-1) n with
    | none =>
      rw [plo_n h, sumN_miss n (fun i hi e => nI_neO (by omega : i < 2 ^ 31) e.symm), if_pos rfl]; omega
    | some g =>
      have hg := lb_lt _ _ _ _ _ _ h
      rw [plo_s h, sumN_hit n hn hg, if_neg (nI_neO (by omega))]; omega
/-! the tree: what a node keeps, its steps -/
def SQ (T : Nat → Int32) (n mo B : Nat) (S : KS) : Prop := ∀ j, j < 128 → (S.1 j = -1 ∨ ∃ g, g < n ∧ S.1 j = nI g ∧ lvB T g (nI mo) = true) ∧ ∃ s, s ≤ B ∧ S.2 j = nI s ∧ (S.1 j = -1 ∨ 1 ≤ s)
theorem SQ.up {B B' : Nat} {S : KS} (h : SQ T n mo B S) (hb : B ≤ B') : SQ T n mo B' S := fun j hj => by
  obtain ⟨h1, s, h2, h3, h4⟩ := h j hj
  exact ⟨h1, s, by omega, h3, h4⟩
theorem SQ.k {B l k : Nat} {S : KS} (h : SQ T n mo B S) (hl : l < n) (hv : lvB T l (nI mo) = true) (hk : k < 128) : SQ T n mo (B + 1) (upd S.1 k (nI l), upd S.2 k (S.2 k + nI 1)) := fun j hj => by
  by_cases q : j = k
  · subst q
    obtain ⟨h1, s, h2, h3, h4⟩ := h j hj
    show (upd S.1 j (nI l) j = -1 ∨ ∃ g, g < n ∧ upd S.1 j (nI l) j = nI g ∧ lvB T g (nI mo) = true) ∧ ∃ s, s ≤ B + 1 ∧ upd S.2 j (S.2 j + nI 1) j = nI s ∧ (upd S.1 j (nI l) j = -1 ∨ 1 ≤ s)
    rw [upd_s, upd_s, h3, nI_add]
    exact ⟨Or.inr ⟨l, hl, rfl, hv⟩, s + 1, by omega, rfl, Or.inr (by omega)⟩
  · obtain ⟨h1, s, h2, h3, h4⟩ := h j hj
    show (upd S.1 k (nI l) j = -1 ∨ ∃ g, g < n ∧ upd S.1 k (nI l) j = nI g ∧ lvB T g (nI mo) = true) ∧ ∃ s, s ≤ B + 1 ∧ upd S.2 k (S.2 k + nI 1) j = nI s ∧ (upd S.1 k (nI l) j = -1 ∨ 1 ≤ s)
    rw [upd_n q, upd_n q]
    exact ⟨h1, s, by omega, h3, h4⟩
theorem SQ.s {B k : Nat} {S : KS} (h : SQ T n mo B S) (hk : k < 128) : SQ T n mo (B + 1) (S.1, upd S.2 k (S.2 k + nI 1)) := fun j hj => by
  by_cases q : j = k
  · subst q
    obtain ⟨h1, s, h2, h3, h4⟩ := h j hj
    show (S.1 j = -1 ∨ ∃ g, g < n ∧ S.1 j = nI g ∧ lvB T g (nI mo) = true) ∧ ∃ s, s ≤ B + 1 ∧ upd S.2 j (S.2 j + nI 1) j = nI s ∧ (S.1 j = -1 ∨ 1 ≤ s)
    rw [upd_s, h3, nI_add]
    exact ⟨h1, s + 1, by omega, rfl, Or.inr (by omega)⟩
  · obtain ⟨h1, s, h2, h3, h4⟩ := h j hj
    show (S.1 j = -1 ∨ ∃ g, g < n ∧ S.1 j = nI g ∧ lvB T g (nI mo) = true) ∧ ∃ s, s ≤ B + 1 ∧ upd S.2 k (S.2 k + nI 1) j = nI s ∧ (S.1 j = -1 ∨ 1 ≤ s)
    rw [upd_n q]
    exact ⟨h1, s, by omega, h3, h4⟩
theorem tPut_sq (hn : n ≤ 20) : ∀ (f l k : Nat) (S : KS) (B : Nat), l < n → lvB T l (nI mo) = true → SQ T n mo B S → SQ T n mo (B + 2 ^ f) (tPut T f l k S)
  | 0, _, _, _, _, _, _, h => h.up (by omega)
  | f + 1, l, k, S, B, hl, hv, h => by
    have ih := tPut_sq hn f
    have hp : 2 ^ (f + 1) = 2 ^ f + 2 ^ f := by rw [Nat.pow_succ]; omega
    have h1p : 1 ≤ 2 ^ f := Nat.one_le_two_pow
    rw [hp]
    unfold tPut
    split
    · exact h.up (by omega)
    · rename_i hk
      have hk : k < 128 := by omega
      split
      · exact h.up (by omega)
      · split
        · exact (ih l (2 * k + 1) _ _ hl hv (ih l (2 * k) _ _ hl hv h)).up (by omega)
        · split
          · exact (h.k hl hv hk).up (by omega)
          · rename_i hne
            obtain ⟨hx, -⟩ := h k hk
            rcases hx with hx | ⟨g, hg, e, hgv⟩
            · exact absurd hx hne
            · have hc : (S.1 k).toNatClampNeg = g := by rw [e, nI_clamp (by omega)]
              rw [hc]
              split
              · repeat' split
                all_goals first | exact (h.k hl hv hk).up (by omega) | exact (ih g _ _ _ hg hgv (h.k hl hv hk)).up (by omega)
              · repeat' split
                all_goals first | exact (h.s hk).up (by omega) | exact (ih l _ _ _ hl hv (h.s hk)).up (by omega)
theorem tAll_sq (hn : n ≤ 20) : ∀ i, i ≤ n → SQ T n mo (128 * i) (tAll T mo (fun _ => -1, fun _ => nI 0) i)
  | 0, _ => fun j _ => ⟨Or.inl rfl, 0, Nat.le_refl _, rfl, Or.inl rfl⟩
  | i + 1, hi => by
    have ih := tAll_sq hn i (by omega)
    unfold tAll; split
    · rename_i hv
      exact (tPut_sq hn 7 i 1 _ _ (by omega) hv ih).up (by have : 2 ^ 7 = 128 := by decide
                                                           omega)
    · exact ih.up (by omega)
theorem kp_sq (hn : n ≤ 20) {k : Nat} (hk : k < 128) : (kp T n mo k = -1 ∨ ∃ g, g < n ∧ kp T n mo k = nI g ∧ lvB T g (nI mo) = true) ∧ ∃ s, s ≤ 2560 ∧ stp T n mo k = nI s ∧ (kp T n mo k = -1 ∨ 1 ≤ s) := (tAll_sq (T := T) (mo := mo) hn n (Nat.le_refl n)).up (by omega) k hk
theorem nds_dead {l : Nat} (hn : n ≤ 20) (hl : l < n) (h : lvB T l (nI mo) = false) : ∀ m, m ≤ 128 → nds T n mo (nI l) m = 0
  | 0, _ => rfl
  | m + 1, hm => by
    rw [nds, nds_dead hn hl h m (by omega), if_neg]
    rintro ⟨h1, h2⟩
    obtain ⟨q | ⟨g, hg, e, hv⟩, -⟩ := kp_sq (T := T) (mo := mo) hn (show m < 128 by omega)
    · rw [q] at h2; exact nI_neO (by omega : l < 2 ^ 31) h2.symm
    · rw [e] at h2
      have := (nI_eq (by omega) (by omega)).mp h2
      subst this
      rw [h] at hv; cases hv
theorem nds_b {ln : Int32} : ∀ m, nds T n mo ln m ≤ m
  | 0 => Nat.le_refl _
  | m + 1 => by have := nds_b (ln := ln) m; rw [nds]; split <;> omega
theorem sum_nds (hn : n ≤ 20) : ∀ m, m ≤ 127 → sumN (fun l => nds T n mo (nI l) (m + 1)) n + nds T n mo (-1) (m + 1) = m
  | 0, _ => by
    show sumN (fun l => 0 + if 1 ≤ 0 ∧ kp T n mo 0 = nI l then 1 else 0) n + (0 + if 1 ≤ 0 ∧ kp T n mo 0 = -1 then 1 else 0) = 0
    have : ∀ m, sumN (fun l => 0 + if 1 ≤ 0 ∧ kp T n mo 0 = nI l then 1 else 0) m = 0 := fun m => by induction m with
      | zero => rfl
      | succ m ih => rw [sumN, ih, if_neg (by omega)]
    rw [this, if_neg (by omega)]
  | m + 1, hm => by
    have ih := sum_nds hn m (by omega)
    have e : ∀ ln, nds T n mo ln (m + 1 + 1) = nds T n mo ln (m + 1) + if kp T n mo (m + 1) = ln then 1 else 0 := fun ln => by
      rw [nds]
      by_cases q : kp T n mo (m + 1) = ln
      · rw [if_pos q, if_pos ⟨by omega, q⟩]
      · rw [if_neg q, if_neg (fun w => q w.2)]
    rw [sumN_cong n (fun l _ => e (nI l)), e (-1)]
    obtain ⟨q | ⟨g, hg, eg, -⟩, -⟩ := kp_sq (T := T) (mo := mo) hn (show m + 1 < 128 by omega)
    · rw [q, sumN_miss n (fun i hi e => nI_neO (by omega : i < 2 ^ 31) e.symm), if_pos rfl]; omega
    · rw [eg, sumN_hit n hn hg, if_neg (nI_neO (by omega))]; omega
end WRT
end
