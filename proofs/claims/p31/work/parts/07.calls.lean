/-! contracts over one world w, the room by levels, and the rows that call them -/
abbrev WS (y : MethodName) (b : ByteArray) (mL : Nat) (rt : Option FieldType) : List Cond := Cond.code y b mL rt :: GW
theorem GW_in {y : MethodName} {b : ByteArray} {mL : Nat} {rt : Option FieldType} (h : Cond.code y b mL rt ∈ GW) : GoodIn GW (WS y b mL rt) := goodIn_sub (fun w hw => (List.mem_cons.mp hw).elim (fun e => by rw [e]; exact h) id) (List.all_eq_true.mpr (fun w hw => List.all_eq_true.mp GW_good w ((List.mem_cons.mp hw).elim (fun e => by rw [e]; exact h) id)))
def PreW (G : GT) (w : va_W) (sz : Nat) (U : State) : Prop := U.heap.size = sz ∧ va_P G.1 vwCl w U.heap ∧ va_K G.1 vwCl (TYS G) U ∧ va_D (fun _ => True) w
def PoW (G : GT) (A : Nat → Prop) (w1 : va_W) (t : State) : Prop := va_P G.1 vwCl w1 t.heap ∧ va_K G.1 vwCl (TYS G) t ∧ va_D A w1
theorem fb_PreW {av : List Value} {G : GT} {w : va_W} {sz : Nat} : FrameBlind (va_Pc av (PreW G w sz)) := fun a U g mk q => by
  obtain ⟨q0, q1, qP, qK, qD⟩ := q
  exact ⟨q0, q1, qP, va_K.moved (u := U) (U := U.calling g mk a) (Vm.Alike.refl U.vm) qK, qD⟩
def MI (l : Launch) (G : GT) (d : Nat) (y : MethodName) (b : ByteArray) (mL : Nat) (rt : Option FieldType) (av : List Value) (w : va_W) {S : Type} (w1 : S → va_W) (post : Int32 → S → Prop) : Prop :=
  ∀ sz, Met l y (WS y b mL rt) (RM d) (va_Pc av (PreW G w sz)) (va_Qi post (fun u t => PoW G (va_A w sz) (w1 u) t) (va_A w sz)) 0 0 (va_A w sz)
def ML (l : Launch) (G : GT) (d : Nat) (y : MethodName) (b : ByteArray) (mL : Nat) (rt : Option FieldType) (av : List Value) (w : va_W) {S : Type} (w1 : S → va_W) (post : Int64 → S → Prop) : Prop :=
  ∀ sz, Met l y (WS y b mL rt) (RM d) (va_Pc av (PreW G w sz)) (va_Ql post (fun u t => PoW G (va_A w sz) (w1 u) t) (va_A w sz)) 0 0 (va_A w sz)
def MD (l : Launch) (G : GT) (d : Nat) (y : MethodName) (b : ByteArray) (mL : Nat) (rt : Option FieldType) (av : List Value) (w : va_W) {S : Type} (w1 : S → va_W) (post : UInt64 → S → Prop) : Prop :=
  ∀ sz, Met l y (WS y b mL rt) (RM d) (va_Pc av (PreW G w sz)) (va_Qd post (fun u t => PoW G (va_A w sz) (w1 u) t) (va_A w sz)) 0 0 (va_A w sz)
def MV (l : Launch) (G : GT) (d : Nat) (y : MethodName) (b : ByteArray) (mL : Nat) (rt : Option FieldType) (av : List Value) (w : va_W) {S : Type} (w1 : S → va_W) (post : S → Prop) : Prop :=
  ∀ sz, Met l y (WS y b mL rt) (RM d) (va_Pc av (PreW G w sz)) (va_Qv post (fun u t => PoW G (va_A w sz) (w1 u) t) (va_A w sz)) 0 0 (va_A w sz)
/-- into a body: Qx the answer's form -/
theorem v_enter {l : Launch} {G : GT} {d mc ms sz : Nat} {rm : Room} {y : MethodName} {b : ByteArray} {mL : Nat} {rt : Option FieldType} {av : List Value} {w : va_W} {Qc : Array Value → State → Outcome → State → Prop} (hrf : d ≤ rm.frames) (hrl : 32 * d ≤ rm.locals)
    (hy : plainName y.cls = true) (hlen : (lg_sl av).length ≤ mL)
    (body : ∀ (p : Program) (e : Env) (s : State) (m : MethodId) (args : Array Value) (below : List Frame) (meth : Method) (c : Code), FX p rm s m args c b y.cls mL d G (va_A w sz) → meth.sig.returnType = rt → meth.locks = false → meth.name = y.name → s.heap.size = sz → V p l e rm s m args below meth c mL G (va_A w sz) (MQ below Qc args s mc ms (va_A w sz)) w 0 0 0 (lv_args 0 av) []) :
    Met l y (WS y b mL rt) rm (va_Pc av (PreW G w sz)) Qc mc ms (va_A w sz) := by
  refine Met.ofW (cc := b) (maxL := mL) (ret := rt) hy rfl ?_
  intro p e s m args below meth c s₁ B hml hv
  obtain ⟨rfl, hsz, hP, hK, hD0⟩ := hv
  have hts0 := atoms_spec (ws := WS y b mL rt) B.pre
  have hown : s.vm.findClass y.cls = some m.cls := findClass_of_methodNamed B.named
  have hD : va_D (va_A w sz) w := hD0.self
  have hA : ∀ q : Nat, s.heap.size ≤ q → va_A w sz q := fun q h => Or.inr (hsz ▸ h)
  have F : FX p rm s m av.toArray c b y.cls mL d G (va_A w sz) := ⟨B.exec, B.bytes, hml, hown, fun w hw => hts0 w (List.mem_cons_of_mem _ hw), hA, hK, hrf, hrl⟩
  have hl := lv_entry av (n := mL) hlen
  rw [lg_entry_eq]
  exact body p e s m av.toArray below meth c F B.returns B.notSynchronized (name_of_methodNamed B.named B.method).1 hsz s.heap [] _ hP hD va_S.rf hl
theorem mi_of {l : Launch} {G : GT} {d : Nat} {y : MethodName} {b : ByteArray} {mL : Nat} {rt : Option FieldType} {av : List Value} {w : va_W} {S : Type} {w1 : S → va_W} {post : Int32 → S → Prop} (hy : plainName y.cls = true) (hlen : (lg_sl av).length ≤ mL)
    (body : ∀ (p : Program) (e : Env) (s : State) (m : MethodId) (args : Array Value) (below : List Frame) (meth : Method) (c : Code) (A : Nat → Prop) (Q : State → Prop), FX p (RM d) s m args c b y.cls mL d G A → meth.sig.returnType = rt → meth.locks = false → Q = MQ below (va_Qi post (fun u t => PoW G A (w1 u) t) A) args s 0 0 A → V p l e (RM d) s m args below meth c mL G A Q w 0 0 0 (lv_args 0 av) []) : MI l G d y b mL rt av w w1 post :=
  fun _ => v_enter (Nat.le_refl _) (Nat.le_refl _) hy hlen (fun p e s m args below meth c F h1 h2 _ _ => body p e s m args below meth c _ _ F h1 h2 rfl)
theorem ml_of {l : Launch} {G : GT} {d : Nat} {y : MethodName} {b : ByteArray} {mL : Nat} {rt : Option FieldType} {av : List Value} {w : va_W} {S : Type} {w1 : S → va_W} {post : Int64 → S → Prop} (hy : plainName y.cls = true) (hlen : (lg_sl av).length ≤ mL)
    (body : ∀ (p : Program) (e : Env) (s : State) (m : MethodId) (args : Array Value) (below : List Frame) (meth : Method) (c : Code) (A : Nat → Prop) (Q : State → Prop), FX p (RM d) s m args c b y.cls mL d G A → meth.sig.returnType = rt → meth.locks = false → Q = MQ below (va_Ql post (fun u t => PoW G A (w1 u) t) A) args s 0 0 A → V p l e (RM d) s m args below meth c mL G A Q w 0 0 0 (lv_args 0 av) []) : ML l G d y b mL rt av w w1 post :=
  fun _ => v_enter (Nat.le_refl _) (Nat.le_refl _) hy hlen (fun p e s m args below meth c F h1 h2 _ _ => body p e s m args below meth c _ _ F h1 h2 rfl)
theorem md_of {l : Launch} {G : GT} {d : Nat} {y : MethodName} {b : ByteArray} {mL : Nat} {rt : Option FieldType} {av : List Value} {w : va_W} {S : Type} {w1 : S → va_W} {post : UInt64 → S → Prop} (hy : plainName y.cls = true) (hlen : (lg_sl av).length ≤ mL)
    (body : ∀ (p : Program) (e : Env) (s : State) (m : MethodId) (args : Array Value) (below : List Frame) (meth : Method) (c : Code) (A : Nat → Prop) (Q : State → Prop), FX p (RM d) s m args c b y.cls mL d G A → meth.sig.returnType = rt → meth.locks = false → Q = MQ below (va_Qd post (fun u t => PoW G A (w1 u) t) A) args s 0 0 A → V p l e (RM d) s m args below meth c mL G A Q w 0 0 0 (lv_args 0 av) []) : MD l G d y b mL rt av w w1 post :=
  fun _ => v_enter (Nat.le_refl _) (Nat.le_refl _) hy hlen (fun p e s m args below meth c F h1 h2 _ _ => body p e s m args below meth c _ _ F h1 h2 rfl)
theorem mv_of {l : Launch} {G : GT} {d : Nat} {y : MethodName} {b : ByteArray} {mL : Nat} {rt : Option FieldType} {av : List Value} {w : va_W} {S : Type} {w1 : S → va_W} {post : S → Prop} (hy : plainName y.cls = true) (hlen : (lg_sl av).length ≤ mL)
    (body : ∀ (p : Program) (e : Env) (s : State) (m : MethodId) (args : Array Value) (below : List Frame) (meth : Method) (c : Code) (A : Nat → Prop) (Q : State → Prop), FX p (RM d) s m args c b y.cls mL d G A → meth.sig.returnType = rt → meth.locks = false → Q = MQ below (va_Qv post (fun u t => PoW G A (w1 u) t) A) args s 0 0 A → V p l e (RM d) s m args below meth c mL G A Q w 0 0 0 (lv_args 0 av) []) : MV l G d y b mL rt av w w1 post :=
  fun _ => v_enter (Nat.le_refl _) (Nat.le_refl _) hy hlen (fun p e s m args below meth c F h1 h2 _ _ => body p e s m args below meth c _ _ F h1 h2 rfl)
def bI (b : Bool) : Int32 := if b then 1 else 0
theorem bI_f {b : Bool} (h : bI b = 0) : b = false := by cases b <;> first | rfl | exact absurd h (by decide)
theorem bI_t {b : Bool} (h : ¬ bI b = 0) : b = true := by cases b <;> first | rfl | exact absurd rfl h
theorem nar_b (b : Bool) : narrow .boolean (.int (bI b)) = .int (bI b) := by cases b <;> rfl
theorem fit_b (b : Bool) : fits .boolean (.int (bI b)) = true := by cases b <;> rfl
theorem nE {a b : Nat} (ha : a < 2 ^ 31) (hb : b < 2 ^ 31) (h : nI a = nI b) : a = b := (nI_eq ha hb).mp h
theorem nEn {a b : Nat} (ha : a < 2 ^ 31) (hb : b < 2 ^ 31) (h : ¬ nI a = nI b) : ¬ a = b := fun e => h (by rw [e])
theorem nL {a b : Nat} (ha : a < 2 ^ 31) (hb : b < 2 ^ 31) (h : nI a < nI b) : a < b := (nI_ltI ha hb).mp h
theorem nLn {a b : Nat} (ha : a < 2 ^ 31) (hb : b < 2 ^ 31) (h : ¬ nI a < nI b) : b ≤ a := Nat.not_lt.mp (fun q => h ((nI_ltI ha hb).mpr q))
theorem nG {a b : Nat} (ha : a < 2 ^ 31) (hb : b < 2 ^ 31) (h : nI b ≤ nI a) : b ≤ a := (nI_leI hb ha).mp h
theorem nGn {a b : Nat} (ha : a < 2 ^ 31) (hb : b < 2 ^ 31) (h : ¬ nI b ≤ nI a) : a < b := Nat.not_le.mp (fun q => h ((nI_leI hb ha).mpr q))
theorem nT {a b : Nat} (ha : a < 2 ^ 31) (hb : b < 2 ^ 31) (h : nI b < nI a) : b < a := (nI_ltI hb ha).mp h
theorem nTn {a b : Nat} (ha : a < 2 ^ 31) (hb : b < 2 ^ 31) (h : ¬ nI b < nI a) : a ≤ b := Nat.not_lt.mp (fun q => h ((nI_ltI hb ha).mpr q))
theorem nK {a b : Nat} (ha : a < 2 ^ 31) (hb : b < 2 ^ 31) (h : nI a ≤ nI b) : a ≤ b := (nI_leI ha hb).mp h
theorem nKn {a b : Nat} (ha : a < 2 ^ 31) (hb : b < 2 ^ 31) (h : ¬ nI a ≤ nI b) : b < a := Nat.not_le.mp (fun q => h ((nI_leI ha hb).mpr q))
section VCALL
variable {p : Program} {l : Launch} {e : Env} {R : Room} {s : State} {m : MethodId} {args : Array Value} {below : List Frame} {meth : Method} {c : Code} {cc : ByteArray} {own : String} {nL d : Nat} {G : GT} {A : Nat → Prop} {Q : State → Prop} {w : va_W} {kc ks pc : Nat} {lv : List (Nat × Value)} {st : List Value}
/-! ends -/
theorem v_zret (F : FX p R s m args c cc own nL d G A) {rt : FieldType} (hr : meth.sig.returnType = some rt) (hlocks : meth.locks = false) {S : Type} {w1 : S → va_W} {post : Int32 → S → Prop} (hQ : Q = MQ below (va_Qi post (fun u t => PoW G A (w1 u) t) A) args s kc ks A) {v : Int32} (hn : narrow rt (.int v) = .int v) (hd : decode cc pc = .ok (.ireturn, 1)) (u : S) (hw : w = w1 u) (hp : post v u) : V p l e R s m args below meth c nL G A Q w kc ks pc lv [.int v] := by
  subst hw; subst hQ
  exact fun H locs ls hP hD hS hl => W.zret F.1 F.2.1 hr hn (fun t ht hW => ⟨⟨v, u, rfl, hp, by rw [ht]; exact hP, va_K.moved hW.alike F.2.2.2.2.2.2.1, hD⟩, hS.F ht⟩) hS.2.2 hd hlocks
theorem v_iret (F : FX p R s m args c cc own nL d G A) (hr : meth.sig.returnType = some .int) (hlocks : meth.locks = false) {S : Type} {w1 : S → va_W} {post : Int32 → S → Prop} (hQ : Q = MQ below (va_Qi post (fun u t => PoW G A (w1 u) t) A) args s kc ks A) {v : Int32} (hd : decode cc pc = .ok (.ireturn, 1)) (u : S) (hw : w = w1 u) (hp : post v u) : V p l e R s m args below meth c nL G A Q w kc ks pc lv [.int v] := v_zret F hr hlocks hQ rfl hd u hw hp
theorem v_lret (F : FX p R s m args c cc own nL d G A) (hr : meth.sig.returnType = some .long) (hlocks : meth.locks = false) {S : Type} {w1 : S → va_W} {post : Int64 → S → Prop} (hQ : Q = MQ below (va_Ql post (fun u t => PoW G A (w1 u) t) A) args s kc ks A) {v : Int64} (hd : decode cc pc = .ok (.lreturn, 1)) (u : S) (hw : w = w1 u) (hp : post v u) : V p l e R s m args below meth c nL G A Q w kc ks pc lv [.long v] := by
  subst hw; subst hQ
  exact fun H locs ls hP hD hS hl => W.lret F.1 F.2.1 hr (fun t ht hW => ⟨⟨v, u, rfl, hp, by rw [ht]; exact hP, va_K.moved hW.alike F.2.2.2.2.2.2.1, hD⟩, hS.F ht⟩) hS.2.2 hd hlocks
theorem v_dret (F : FX p R s m args c cc own nL d G A) (hr : meth.sig.returnType = some .double) (hlocks : meth.locks = false) {S : Type} {w1 : S → va_W} {post : UInt64 → S → Prop} (hQ : Q = MQ below (va_Qd post (fun u t => PoW G A (w1 u) t) A) args s kc ks A) {v : UInt64} (hd : decode cc pc = .ok (.dreturn, 1)) (u : S) (hw : w = w1 u) (hp : post v u) : V p l e R s m args below meth c nL G A Q w kc ks pc lv [.double v] := by
  subst hw; subst hQ
  exact fun H locs ls hP hD hS hl => W.dret F.1 F.2.1 hr (fun t ht hW => ⟨⟨v, u, rfl, hp, by rw [ht]; exact hP, va_K.moved hW.alike F.2.2.2.2.2.2.1, hD⟩, hS.F ht⟩) hS.2.2 hd hlocks
theorem v_vret (F : FX p R s m args c cc own nL d G A) (hr : meth.sig.returnType = none) (hlocks : meth.locks = false) {S : Type} {w1 : S → va_W} {post : S → Prop} (hQ : Q = MQ below (va_Qv post (fun u t => PoW G A (w1 u) t) A) args s kc ks A) (hd : decode cc pc = .ok (.return_, 1)) (u : S) (hw : w = w1 u) (hp : post u) : V p l e R s m args below meth c nL G A Q w kc ks pc lv [] := by
  subst hw; subst hQ
  exact fun H locs ls hP hD hS hl => W.vret F.1 F.2.1 hr (fun t ht hW => ⟨⟨u, rfl, hp, by rw [ht]; exact hP, va_K.moved hW.alike F.2.2.2.2.2.2.1, hD⟩, hS.F ht⟩) hS.2.2 hd hlocks
/-! calls: what the words say of a site -/
def CSV (own : String) (idx : Nat) (C : String) (y : MethodName) (b : ByteArray) (mL : Nat) (rt : Option FieldType) (n : Nat) : Prop :=
  Cond.code y b mL rt ∈ GW ∧ Cond.methodLink own idx y ∈ GW ∧ Cond.instanceMethod y ∈ GW ∧ Cond.selects C y y ∈ GW ∧ Cond.initialized C ∈ GW ∧ (y.cls = C ∧ y.cls ≠ "java/lang/invoke/MethodHandle" ∧ y.cls ≠ "java/lang/invoke/VarHandle" ∧ (parseMethodDescriptor y.desc).map (fun d => d.parameters.length) = some n) ∧ mL ≤ 13
def CSS (own : String) (idx : Nat) (y : MethodName) (b : ByteArray) (mL : Nat) (rt : Option FieldType) (n : Nat) : Prop :=
  Cond.code y b mL rt ∈ GW ∧ Cond.methodLink own idx y ∈ GW ∧ Cond.static y ∈ GW ∧ Cond.initialized y.cls ∈ GW ∧ (y.cls ≠ "java/lang/invoke/MethodHandle" ∧ y.cls ≠ "java/lang/invoke/VarHandle" ∧ (parseMethodDescriptor y.desc).map (fun d => d.parameters.length) = some n) ∧ mL ≤ 13
theorem CSV.use {own : String} {idx : Nat} {C : String} {y : MethodName} {b : ByteArray} {mL : Nat} {rt : Option FieldType} {n d' mc ms : Nat} {rm : Room} (h : CSV own idx C y b mL rt n) (F : FX p R s m args c cc own nL d G A) (hrc : rm.cells = mc) (hrs : rm.slots = ms) (hrf : rm.frames = d') (hrl : rm.locals = 32 * d') (hd : d' + 1 ≤ d) : CallW R s args own C idx y b mL rt (WS y b mL rt) rm mc ms n := by
  obtain ⟨h1, h2, h3, h4, h5, h6, h7⟩ := h
  obtain ⟨f1, f2, f3, f4, f5, f6, f7, f8, f9⟩ := F
  exact ⟨callB_of n f5 (GW_in h1) rfl hrc hrs (by rw [h6.1]; exact f5 _ h5) (f5 _ h2) h6.2 ⟨by omega, by omega⟩, f5 _ h3, f5 _ h4⟩
theorem CSS.use {own : String} {idx : Nat} {y : MethodName} {b : ByteArray} {mL : Nat} {rt : Option FieldType} {n d' mc ms : Nat} {rm : Room} (h : CSS own idx y b mL rt n) (F : FX p R s m args c cc own nL d G A) (hrc : rm.cells = mc) (hrs : rm.slots = ms) (hrf : rm.frames = d') (hrl : rm.locals = 32 * d') (hd : d' + 1 ≤ d) : CallB R s args own idx y b mL rt (WS y b mL rt) rm mc ms n ∧ (Cond.static y).before args s = true := by
  obtain ⟨h1, h2, h3, h4, h6, h7⟩ := h
  obtain ⟨f1, f2, f3, f4, f5, f6, f7, f8, f9⟩ := F
  exact ⟨callB_of n f5 (GW_in h1) rfl hrc hrs (f5 _ h4) (f5 _ h2) h6 ⟨by omega, by omega⟩, f5 _ h3⟩
theorem v_preV {H : Heap} {ci : Nat} {C : String} {T : u_T} {N q0 b0 : Nat} {fs As : List Value} {wc : va_W} (F : FX p R s m args c cc own nL d G A) (hP : va_P G.1 vwCl w H) (hPc : va_P G.1 vwCl wc H) (hDc : va_D A wc) (hc : vwCl[ci]? = some (C, T, N)) (he : w[q0]? = some (b0, .inr (ci, fs))) : PreV s H C b0 (va_Pc (.ref b0 :: As) (PreW G wc H.size)) As :=
  ⟨fb_PreW, va_recv F.2.2.2.2.2.2.1 hP hc he, fun U hU hW => ⟨rfl, by rw [hU], by rw [hU]; exact hPc, va_K.moved hW.alike F.2.2.2.2.2.2.1, hDc.weaken (fun _ _ _ _ => trivial)⟩⟩
theorem v_preS {H : Heap} {As : List Value} {wc : va_W} (F : FX p R s m args c cc own nL d G A) (hPc : va_P G.1 vwCl wc H) (hDc : va_D A wc) : PreS s H (va_Pc As (PreW G wc H.size)) As :=
  ⟨fb_PreW, fun U hU hW => ⟨rfl, by rw [hU], by rw [hU]; exact hPc, va_K.moved hW.alike F.2.2.2.2.2.2.1, hDc.weaken (fun _ _ _ _ => trivial)⟩⟩
theorem v_freeA {H : Heap} {locs : List Loc} (F : FX p R s m args c cc own nL d G A) (hD : va_D A w) (hS : va_S A s.heap H locs) : ∀ q, va_A w H.size q → A q := fun q h => by
  rcases h with ⟨k, e, h⟩ | h
  · exact hD.2 k _ h
  · exact F.2.2.2.2.2.1 q (Nat.le_trans hS.1 h)
theorem v_free0 {H : Heap} {locs : List Loc} (F : FX p R s m args c cc own nL d G A) (hS : va_S A s.heap H locs) : ∀ q, va_A [] H.size q → A q := fun q h => by
  rcases h with ⟨k, e, h⟩ | h
  · simp at h
  · exact F.2.2.2.2.2.1 q (Nat.le_trans hS.1 h)
theorem v_nil {B : Nat → Prop} : va_D B [] := ⟨fun i j p q h => by simp at h, fun k q h => by simp at h⟩
theorem v_nilP {H : Heap} : va_P G.1 vwCl [] H := fun k q h => by simp at h
theorem v_kept0 {H H1 : Heap} (hP : va_P G.1 vwCl w H) (hk : ∀ q : Nat, q < H.size → ¬ va_A [] H.size q → H1[q]? = H[q]?) : va_P G.1 vwCl w H1 :=
  hP.kept (fun k q hq => hk q.1 (hP k q hq).lt (fun h => by
    rcases h with ⟨k, e, h⟩ | h
    · simp at h
    · have := (hP k q hq).lt; omega))
end VCALL
