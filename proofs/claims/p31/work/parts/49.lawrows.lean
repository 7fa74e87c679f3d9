/-! rows of the law: new cells, constructors, calls that throw into a handler, the law's helpers, the script -/
theorem wC_objectInit : Cond.code objectInit ⟨#[0xb1]⟩ 1 none ∈ GW := tk1 (i := 25) (by decide +kernel) (by decide +kernel)
section LROWS
variable {p : Program} {l : Launch} {e : Env} {R : Room} {s : State} {m : MethodId} {args : Array Value} {below : List Frame} {meth : Method} {c : Code} {cc : ByteArray} {own : String} {nL d : Nat} {G : GT} {A : Nat → Prop} {Q : State → Prop} {w : va_W} {kc ks pc : Nat} {lv : List (Nat × Value)} {st : List Value}
theorem v_pick (is : List Nat) {w' : va_W} (hf : is.filterMap (fun i => w[i]?) = w') (hm : is.map (fun i => w[i]?) = w'.map some) (hn : va_nd is = true) (k : V p l e R s m args below meth c nL G A Q w' kc ks pc lv st) : V p l e R s m args below meth c nL G A Q w kc ks pc lv st := fun H locs ls hP hD hS hl => k H locs ls (hP.sub is hf) (hD.sub is hn hm) hS hl
theorem v_widen {k' n' : Nat} (h1 : kc ≤ k') (h2 : ks ≤ n') (k : V p l e R s m args below meth c nL G A Q w k' n' pc lv st) : V p l e R s m args below meth c nL G A Q w kc ks pc lv st := fun H locs ls hP hD hS hl => W.widen h1 h2 (k H locs ls hP hD hS hl)
theorem v_new (F : FX p R s m args c cc own nL d G A) {C : String} {T : u_T} {N ci idx : Nat} (hin : ∀ w ∈ u_ws C T N, w ∈ GW) (hc : vwCl[ci]? = some (C, T, N)) (ty0 : Nat → FieldType) (hty : ∀ k, k < N → parseFieldDescriptor (T k).2.2.1 = some (ty0 k)) (hcl : Cond.classLink own idx C ∈ GW) (hinst : Cond.instantiable C N ∈ GW) (hini : Cond.initialized C ∈ GW) (fs : List Value) (hfs : ∀ j, j < N → defaultValue (ty0 j) = vp_V fs j) (hcells : kc + 1 ≤ R.cells) (hslots : ks + N ≤ R.slots) (hd : decode cc pc = .ok (.new idx, 3)) (k : ∀ q : Nat, V p l e R s m args below meth c nL G A Q (w ++ [(q, .inr (ci, fs))]) (kc + 1) (ks + N) (pc + 3) lv (.ref q :: st)) : V p l e R s m args below meth c nL G A Q w kc ks pc lv st :=
  fun H locs ls hP hD hS hl => va_new F.1 F.2.1 F.2.2.2.2.1 hin ty0 hty F.2.2.2.1 (F.2.2.2.2.1 _ hcl) (F.2.2.2.2.1 _ hinst) (F.2.2.2.2.1 _ hini) F.2.2.2.2.2.2.1 hP hD hS F.2.2.2.2.2.1 hc hfs hcells hslots hd (fun q H1 hP1 hD1 hS1 => k q H1 locs ls hP1 hD1 hS1 hl)
theorem v_newI (F : FX p R s m args c cc own nL d G A) {N : Nat} (hN : N < 2 ^ 20) (hcells : kc + 1 ≤ R.cells) (hslots : ks + N ≤ R.slots) (hd : decode cc pc = .ok (.newarray .int, 2)) (k : ∀ q : Nat, V p l e R s m args below meth c nL G A Q (w ++ [(q, .inl (G.2.1, N, .inl (fun _ => 0)))]) (kc + 1) (ks + N) (pc + 2) lv (.ref q :: st)) : V p l e R s m args below meth c nL G A Q w kc ks pc lv (.int (nI N) :: st) :=
  fun H locs ls hP hD hS hl => va_newa (atype := .int) (a0 := (N, .inl (fun _ => 0))) F.1 F.2.1 (F.2.2.2.2.1 _ wA_int) (ty := .int) rfl F.2.2.2.2.2.2.1 hP hD hS F.2.2.2.2.2.1 (fun _ => rfl) (nI_pos (by omega)) (nI_clamp (by omega)) (by show N * 4 ≤ _; omega) hcells hslots hd (fun q cA H1 hK1 hP1 hD1 hS1 => by
    have h1 := (hK1.2 1 _ rfl).2
    have h2 := (F.2.2.2.2.2.2.1.2 0 _ rfl).2
    have h3 : cA = G.2.1 := Option.some.inj ((show s.vm.findClass _ = some cA from h1).symm.trans h2)
    subst h3
    exact k q H1 locs ls hP1 hD1 hS1 hl)
theorem v_objInit (F : FX p R s m args c cc own nL d G A) {idx : Nat} (hlink : Cond.methodLink own idx objectInit ∈ GW) (hd : decode cc pc = .ok (.invokespecial idx, 3)) {a : Nat} (hf : 1 ≤ R.frames) (hr : (st.map fun v => v.category).sum + 12 ≤ R.locals) (k : V p l e R s m args below meth c nL G A Q w kc ks (pc + 3) lv st) : V p l e R s m args below meth c nL G A Q w kc ks pc lv (.ref a :: st) :=
  fun H locs ls hP hD hS hl => W.objInit F.1 F.2.1 F.2.2.2.1 (F.2.2.2.2.1 _ hlink) (F.2.2.2.2.1 _ wIm_objectInit) (F.2.2.2.2.1 _ wC_objectInit) (g := F0 m pc ls (.ref a :: st)) rfl (by rw [F.2.2.1]; exact hl.1) rfl hd hf (by show 2 * 0 + _ + 12 ≤ _; omega) (k H locs ls hP hD hS hl)
theorem v_putF (F : FX p R s m args c cc own nL d G A) {a : Nat} {T : u_T} {N ci index : Nat} (hin : ∀ w ∈ u_ws own T N, w ∈ GW) (hc : vwCl[ci]? = some (own, T, N)) (ty0 : Nat → FieldType) (hty : ∀ k, k < N → parseFieldDescriptor (T k).2.2.1 = some (ty0 k)) (hnm : ∀ a, a < N → ∀ b, b < N → a ≠ b → (T a).2.1 ≠ (T b).2.1) (k : Nat) (hk : k < N) (hT : (T k).1 = own) (hfin : (T k).2.2.2 = true) (hin2 : meth.name = "<init>") (hlink : Cond.fieldLink own index own (T k).2.1 (T k).2.2.1 ∈ GW) (hd : decode cc pc = .ok (.putfield index, 3)) {ty : FieldType} {v : Value} (hdd : parseFieldDescriptor (T k).2.2.1 = some ty) (hn : narrow ty v = v) (hfit : fits ty v = true) (q0 : Nat) {fs : List Value} (he : w[q0]? = some (a, .inr (ci, fs))) (hl0 : k < fs.length) (w' : va_W) (hw : w.set q0 (a, .inr (ci, fs.set k v)) = w') (kk : V p l e R s m args below meth c nL G A Q w' kc ks (pc + 3) lv st) : V p l e R s m args below meth c nL G A Q w kc ks pc lv (v :: .ref a :: st) := fun H locs ls hP hD hS hl => va_putF F.1 F.2.1 F.2.2.2.2.1 hin ty0 hty hnm F.2.2.2.1 F.2.2.2.2.2.2.1 hP hD hS q0 he hc k hk (F.2.2.2.2.1 _ hlink) (fun _ h9 => hT ▸ h9) hfin hin2 hT hdd hn hfit hl0 hd (fun H1 locs1 hP1 hD1 hS1 => kk H1 locs1 ls (hw ▸ hP1) (hw ▸ hD1) hS1 hl)
end LROWS
/-! constructors -/
def NMW : List Cond := [.methodLinkNest RX7 9 yX1_init RX7, .methodLinkNest RX7 18 yX0_init RX7, .methodLinkNest RX7 25 yX5_init RX7, .methodLinkNest RX5 17 yX3_init RX7]
def NM (U : State) : Prop := ∀ w ∈ NMW, va_Nw w U
theorem NM_ot : ∀ w ∈ NMW, w.onTables = true := by
  intro w hw
  simp only [NMW, List.mem_cons, List.not_mem_nil, or_false] at hw
  rcases hw with rfl | rfl | rfl | rfl <;> rfl
theorem NM.warm {s U : State} (hW : s.WarmedH U.vm) (h : NM s) : NM U := by
  intro w hw
  have h1 := h w hw
  simp only [NMW, List.mem_cons, List.not_mem_nil, or_false] at hw
  rcases hw with rfl | rfl | rfl | rfl <;> exact va_Nw.warmM hW h1
theorem NM.same {u U : State} (hv : u.vm = U.vm) (h : NM u) : NM U := fun w hw => va_Nw.same (NM_ot w hw) hv (h w hw)
def PreN (G : GT) (w : va_W) (sz : Nat) (U : State) : Prop := PreW G w sz U ∧ NM U
theorem fb_PreN {av : List Value} {G : GT} {w : va_W} {sz : Nat} : FrameBlind (va_Pc av (PreN G w sz)) := fun a U g mk q => by
  obtain ⟨q0, ⟨q1, qP, qK, qD⟩, q2⟩ := q
  exact ⟨q0, ⟨q1, qP, va_K.moved (u := U) (U := U.calling g mk a) (Vm.Alike.refl U.vm) qK, qD⟩, NM.same (u := U) (U := U.calling g mk a) rfl q2⟩
abbrev RC (d mc ms : Nat) : Room := { frames := d, cells := mc, slots := ms, locals := 32 * d }
def MC (l : Launch) (G : GT) (d : Nat) (y : MethodName) (b : ByteArray) (mL : Nat) (av : List Value) (w : va_W) {S : Type} (w1 : S → va_W) (post : S → Prop) (mc ms : Nat) : Prop :=
  ∀ sz, Met l y (WS y b mL none) (RC d mc ms) (va_Pc av (PreN G w sz)) (va_Qv post (fun u t => PoW G (va_A w sz) (w1 u) t) (va_A w sz)) mc ms (va_A w sz)
theorem mc_of {l : Launch} {G : GT} {d mc ms : Nat} {y : MethodName} {b : ByteArray} {mL : Nat} {av : List Value} {w : va_W} {S : Type} {w1 : S → va_W} {post : S → Prop} (hy : plainName y.cls = true) (hlen : (lg_sl av).length ≤ mL) (hnm : y.name = "<init>")
    (body : ∀ (p : Program) (e : Env) (s : State) (m : MethodId) (args : Array Value) (below : List Frame) (meth : Method) (c : Code) (A : Nat → Prop) (Q : State → Prop), FX p (RC d mc ms) s m args c b y.cls mL d G A → meth.sig.returnType = none → meth.locks = false → meth.name = "<init>" → NM s → Q = MQ below (va_Qv post (fun u t => PoW G A (w1 u) t) A) args s mc ms A → V p l e (RC d mc ms) s m args below meth c mL G A Q w 0 0 0 (lv_args 0 av) []) : MC l G d y b mL av w w1 post mc ms := by
  intro sz
  refine Met.ofW (cc := b) (maxL := mL) (ret := none) hy rfl ?_
  intro p e s m args below meth c s₁ B hml hv
  obtain ⟨rfl, ⟨hsz, hP, hK, hD0⟩, hNM⟩ := hv
  have hts0 := atoms_spec (ws := WS y b mL none) B.pre
  have hown : s.vm.findClass y.cls = some m.cls := findClass_of_methodNamed B.named
  have hD : va_D (va_A w sz) w := hD0.self
  have hA : ∀ q : Nat, s.heap.size ≤ q → va_A w sz q := fun q h => Or.inr (hsz ▸ h)
  have F : FX p (RC d mc ms) s m av.toArray c b y.cls mL d G (va_A w sz) := ⟨B.exec, B.bytes, hml, hown, fun w hw => hts0 w (List.mem_cons_of_mem _ hw), hA, hK, Nat.le_refl _, Nat.le_refl _⟩
  have hl := lv_entry av (n := mL) hlen
  rw [lg_entry_eq]
  exact body p e s m av.toArray below meth c _ _ F B.returns B.notSynchronized ((name_of_methodNamed B.named B.method).1.trans hnm) hNM rfl s.heap [] _ hP hD va_S.rf hl
def CSI (own : String) (idx : Nat) (y : MethodName) (b : ByteArray) (mL n : Nat) : Prop :=
  Cond.code y b mL none ∈ GW ∧ Cond.methodLink own idx y ∈ GW ∧ Cond.instanceMethod y ∈ GW ∧ Cond.initialized y.cls ∈ GW ∧ y.name = "<init>" ∧ (y.cls ≠ "java/lang/invoke/MethodHandle" ∧ y.cls ≠ "java/lang/invoke/VarHandle" ∧ (parseMethodDescriptor y.desc).map (fun d => d.parameters.length) = some n) ∧ mL ≤ 13
def CSN (own : String) (idx : Nat) (y : MethodName) (b : ByteArray) (mL n : Nat) : Prop :=
  Cond.code y b mL none ∈ GW ∧ Cond.methodLinkNest own idx y RX7 ∈ NMW ∧ Cond.instanceMethod y ∈ GW ∧ Cond.initialized y.cls ∈ GW ∧ y.name = "<init>" ∧ (y.cls ≠ "java/lang/invoke/MethodHandle" ∧ y.cls ≠ "java/lang/invoke/VarHandle" ∧ (parseMethodDescriptor y.desc).map (fun d => d.parameters.length) = some n) ∧ mL ≤ 13
/-! helpers of the law: a call that may throw, its handlers -/
def NCP : List (String × String) := []
def NC (U : State) : Prop := ∀ q ∈ NCP, va_Nc q.1 q.2 U
theorem NC.moved {u U : State} (hvm : u.vm.Alike U.vm) (h : NC u) : NC U := fun q hq => va_Nc.moved hvm (h q hq)
def PreL (G : GT) (w : va_W) (sz : Nat) (U : State) : Prop := PreX G w sz U ∧ NC U
theorem fb_PreL {av : List Value} {G : GT} {w : va_W} {sz : Nat} : FrameBlind (va_Pc av (PreL G w sz)) := fun a U g mk q => by
  obtain ⟨q0, q1, q2⟩ := q
  obtain ⟨r0, r1⟩ := fb_PreX a U g mk ⟨q0, q1⟩
  exact ⟨r0, r1, NC.moved (u := U) (U := U.calling g mk a) (Vm.Alike.refl U.vm) q2⟩
abbrev WSH (y : MethodName) (b : ByteArray) (mL : Nat) (hh : List (Nat × Nat × Nat × Nat)) : List Cond := Cond.codeWith y b mL (some .int) hh :: GW
def HM (l : Launch) (G : GT) (d : Nat) (y : MethodName) (b : ByteArray) (mL : Nat) (hh : List (Nat × Nat × Nat × Nat)) (av : List Value) (w : va_W) {S : Type} (w1 : S → va_W) (post : Int32 → S → Prop) : Prop :=
  ∀ sz, Met l y (WSH y b mL hh) (RX d) (va_Pc av (PreL G w sz)) (va_Qi post (fun u t => PoW G (va_A w sz) (w1 u) t) (va_A w sz)) 1 6 (va_A w sz)
theorem hm_of {l : Launch} {G : GT} {d : Nat} {y : MethodName} {b : ByteArray} {mL : Nat} {hh : List (Nat × Nat × Nat × Nat)} {av : List Value} {w : va_W} {S : Type} {w1 : S → va_W} {post : Int32 → S → Prop} (hy : plainName y.cls = true) (hlen : (lg_sl av).length ≤ mL)
    (body : ∀ (p : Program) (e : Env) (s : State) (m : MethodId) (args : Array Value) (below : List Frame) (meth : Method) (c : Code) (A : Nat → Prop) (Q : State → Prop), FX p (RX d) s m args c b y.cls mL d G A → meth.sig.returnType = some .int → meth.locks = false → Q = MQ below (va_Qi post (fun u t => PoW G A (w1 u) t) A) args s 1 6 A → SF s → SH A s s.heap → NC s → c.exceptionTable.toList = tableOf hh → V p l e (RX d) s m args below meth c mL G A Q w 0 0 0 (lv_args 0 av) []) : HM l G d y b mL hh av w w1 post := by
  intro sz
  refine MetFree.of_bodyS (code := b) (maxLocals := mL) (ret := some .int) hy ?_ ?_
  · intro args s m h hn
    obtain ⟨m9, meth, c, hn9, h1, h2, h3, h4, -, h5, h6, -⟩ := Cond.codeWith_spec (atoms_spec (ws := WSH y b mL hh) h _ List.mem_cons_self)
    cases hn.symm.trans hn9
    exact ⟨meth, c, h1, h2, h3, h4, h5, h6⟩
  · intro p e s m args below meth c s₁ B hml hv _
    obtain ⟨rfl, ⟨⟨hsz, hP, hK, hD0⟩, hSF, hSH⟩, hNC⟩ := hv
    have hh0 : s₁.heap = s.heap := by rw [B.state]; rfl
    have hts0 := atoms_spec (ws := WSH y b mL hh) B.pre
    have ht := vx_table (x := y) B (hts0 _ List.mem_cons_self)
    have hown : s.vm.findClass y.cls = some m.cls := findClass_of_methodNamed B.named
    have hD : va_D (va_A w sz) w := hD0.self
    have hA : ∀ q : Nat, s.heap.size ≤ q → va_A w sz q := fun q h => Or.inr (hsz ▸ h)
    have F : FX p (RX d) s m av.toArray c b y.cls mL d G (va_A w sz) := ⟨B.exec, B.bytes, hml, hown, fun w hw => hts0 w (List.mem_cons_of_mem _ hw), hA, hK, Nat.le_refl _, Nat.le_refl _⟩
    have hl := lv_entry av (n := mL) hlen
    have K : W p l e (RX d) s m av.toArray below meth c s.heap [] 0 0 (MQ below (va_Qi post (fun u t => PoW G (va_A w sz) (w1 u) t) (va_A w sz)) av.toArray s 1 6 (va_A w sz)) (entryFrame m av.toArray mL) := by
      rw [lg_entry_eq]
      exact body p e s m av.toArray below meth c _ _ F B.returns B.notSynchronized rfl hSF hSH hNC ht s.heap [] _ hP hD va_S.rf hl
    obtain ⟨t, a1, o, b1, b2, b3⟩ := K s₁ hh0 (Stand.of_body B)
    exact ⟨t, o, a1, b1, b2, ⟨b3.1, b3.2⟩⟩
def CSH (own : String) (idx : Nat) (y : MethodName) (b : ByteArray) (mL : Nat) (hh : List (Nat × Nat × Nat × Nat)) (n : Nat) : Prop :=
  Cond.codeWith y b mL (some .int) hh ∈ GW ∧ Cond.methodLink own idx y ∈ GW ∧ Cond.static y ∈ GW ∧ Cond.initialized y.cls ∈ GW ∧ (y.cls ≠ "java/lang/invoke/MethodHandle" ∧ y.cls ≠ "java/lang/invoke/VarHandle" ∧ (parseMethodDescriptor y.desc).map (fun d => d.parameters.length) = some n) ∧ mL ≤ 13
section LCALL
variable {p : Program} {l : Launch} {e : Env} {R : Room} {s : State} {m : MethodId} {args : Array Value} {below : List Frame} {meth : Method} {c : Code} {cc : ByteArray} {own : String} {nL d : Nat} {G : GT} {A : Nat → Prop} {Q : State → Prop} {w : va_W} {kc ks pc : Nat} {lv : List (Nat × Value)} {st : List Value}
theorem CSI.use {y : MethodName} {b : ByteArray} {mL n idx d' mc ms : Nat} (h : CSI own idx y b mL n) (F : FX p R s m args c cc own nL d G A) (hd : d' + 1 ≤ d) : CallB R s args own idx y b mL none (WS y b mL none) (RC d' mc ms) mc ms n ∧ y.name = "<init>" ∧ (Cond.instanceMethod y).before args s = true := by
  obtain ⟨h1, h2, h3, h4, h5, h6, h7⟩ := h
  obtain ⟨f1, f2, f3, f4, f5, f6, f7, f8, f9⟩ := F
  exact ⟨callB_of n f5 (GW_in h1) rfl rfl rfl (f5 _ h4) (f5 _ h2) h6 ⟨by show d' + 1 ≤ _; omega, by show 8 + (mL + 11) + 32 * d' ≤ _; omega⟩, h5, f5 _ h3⟩
theorem CSN.use {y : MethodName} {b : ByteArray} {mL n idx d' mc ms : Nat} (h : CSN own idx y b mL n) (hNM : NM s) (F : FX p R s m args c cc own nL d G A) (hd : d' + 1 ≤ d) : va_CN R s args own idx y RX7 b mL none (WS y b mL none) (RC d' mc ms) mc ms n ∧ y.name = "<init>" ∧ (Cond.instanceMethod y).before args s = true := by
  obtain ⟨h1, h2, h3, h4, h5, h6, h7⟩ := h
  obtain ⟨f1, f2, f3, f4, f5, f6, f7, f8, f9⟩ := F
  exact ⟨va_cnB n f5 (GW_in h1) rfl rfl rfl (hNM _ h2) (f5 _ h4) h6 ⟨by show d' + 1 ≤ _; omega, by show 8 + (mL + 11) + 32 * d' ≤ _; omega⟩, h5, f5 _ h3⟩
theorem v_preN {H : Heap} {As : List Value} {wc : va_W} (F : FX p R s m args c cc own nL d G A) (hNM : NM s) (hPc : va_P G.1 vwCl wc H) (hDc : va_D A wc) : PreS s H (va_Pc As (PreN G wc H.size)) As :=
  ⟨fb_PreN, fun U hU hW => ⟨rfl, ⟨by rw [hU], by rw [hU]; exact hPc, va_K.moved hW.alike F.2.2.2.2.2.2.1, hDc.weaken (fun _ _ _ _ => trivial)⟩, NM.warm hW hNM⟩⟩
theorem v_cI (F : FX p R s m args c cc own nL d G A) (hNM : NM s) {idx : Nat} {y : MethodName} {b : ByteArray} {mL n : Nat} (cs : CSI own idx y b mL n) (hd : decode cc pc = .ok (.invokespecial idx, 3)) {b0 d' : Nat} {As rest : List Value} (isC isR : List Nat) {wc wr : va_W} (hC : isC.map (fun i => w[i]?) = wc.map some) (hCf : isC.filterMap (fun i => w[i]?) = wc) (hCn : va_nd isC = true) (hR : isR.map (fun i => w[i]?) = wr.map some) (hn : va_nd isR = true) (hdis : ∀ i ∈ isR, i ∉ isC) {S : Type} {w1 : S → va_W} {post : S → Prop} {mc ms : Nat} (M0 : MC l G d' y b mL (.ref b0 :: As) wc w1 post mc ms) (hdd : d' + 1 ≤ d) (hn1 : As.length = n) (hst : st = As.reverse ++ .ref b0 :: rest) (hcat : (rest.map fun v => v.category).sum ≤ 8) (hkc : kc + mc ≤ R.cells ∧ ks + ms ≤ R.slots) (k : ∀ (u : S), post u → V p l e R s m args below meth c nL G A Q (wr ++ w1 u) (kc + mc) (ks + ms) (pc + 3) lv rest) : V p l e R s m args below meth c nL G A Q w kc ks pc lv st := by
  subst hst
  refine fun H locs ls hP hD hS hl => va_callv (va_runI (As := As) (rest := rest) ⟨F.1, F.2.1, F.2.2.1, F.2.2.2.1, F.2.2.2.2.1⟩ (M0 H.size) (cs.use F hdd) (v_preN F hNM (hP.sub isC hCf) (hD.sub isC hCn hC)) rfl hn1 hl.1 rfl (lv_room hcat) hd ⟨hkc.1, hkc.2⟩) hS (fun q _ h => (va_free hD hS F.2.2.2.2.2.1 isC hC) q h) (va_free hD hS F.2.2.2.2.2.1 isC hC) (fun u t H1 locs1 ht hvm hw hB hz1 hk1 hS1 => ?_)
  exact (fun hj => k u hw H1 locs1 ls hj.1 hj.2 hS1 hl) (va_join hP hD isC isR hC hR hn hdis hk1 (va_free hD hS F.2.2.2.2.2.1 isC hC) (by rw [← ht]; exact hB.1) hB.2.2)
theorem v_cIN (F : FX p R s m args c cc own nL d G A) (hNM : NM s) {idx : Nat} {y : MethodName} {b : ByteArray} {mL n : Nat} (cs : CSN own idx y b mL n) (hd : decode cc pc = .ok (.invokespecial idx, 3)) {b0 d' : Nat} {As rest : List Value} (isC isR : List Nat) {wc wr : va_W} (hC : isC.map (fun i => w[i]?) = wc.map some) (hCf : isC.filterMap (fun i => w[i]?) = wc) (hCn : va_nd isC = true) (hR : isR.map (fun i => w[i]?) = wr.map some) (hn : va_nd isR = true) (hdis : ∀ i ∈ isR, i ∉ isC) {S : Type} {w1 : S → va_W} {post : S → Prop} {mc ms : Nat} (M0 : MC l G d' y b mL (.ref b0 :: As) wc w1 post mc ms) (hdd : d' + 1 ≤ d) (hn1 : As.length = n) (hst : st = As.reverse ++ .ref b0 :: rest) (hcat : (rest.map fun v => v.category).sum ≤ 8) (hkc : kc + mc ≤ R.cells ∧ ks + ms ≤ R.slots) (k : ∀ (u : S), post u → V p l e R s m args below meth c nL G A Q (wr ++ w1 u) (kc + mc) (ks + ms) (pc + 3) lv rest) : V p l e R s m args below meth c nL G A Q w kc ks pc lv st := by
  subst hst
  refine fun H locs ls hP hD hS hl => va_callv (va_runIN (As := As) (rest := rest) ⟨F.1, F.2.1, F.2.2.1, F.2.2.2.1, F.2.2.2.2.1⟩ (M0 H.size) (cs.use hNM F hdd) (v_preN F hNM (hP.sub isC hCf) (hD.sub isC hCn hC)) rfl hn1 hl.1 rfl (lv_room hcat) hd ⟨hkc.1, hkc.2⟩) hS (fun q _ h => (va_free hD hS F.2.2.2.2.2.1 isC hC) q h) (va_free hD hS F.2.2.2.2.2.1 isC hC) (fun u t H1 locs1 ht hvm hw hB hz1 hk1 hS1 => ?_)
  exact (fun hj => k u hw H1 locs1 ls hj.1 hj.2 hS1 hl) (va_join hP hD isC isR hC hR hn hdis hk1 (va_free hD hS F.2.2.2.2.2.1 isC hC) (by rw [← ht]; exact hB.1) hB.2.2)
/-- where an exception goes from here -/
def Caught (l : Launch) (p : Program) (e : Env) (R : Room) (s : State) (m : MethodId) (args : Array Value) (below : List Frame) (meth : Method) (c : Code) (own : String) (nL : Nat) (G : GT) (A : Nat → Prop) (Q : State → Prop) (w : va_W) (kc ks pc : Nat) (lv : List (Nat × Value)) (E : String) : Prop :=
  ∃ (pre : List ExceptionTableEntry) (x : ExceptionTableEntry) (suf : List ExceptionTableEntry) (name : String), c.exceptionTable.toList = pre ++ x :: suf ∧ (∀ z ∈ pre, covers z pc = false ∨ (z.catchType ≠ 0 ∧ ∃ nm : String, (Cond.classLink own z.catchType nm).before args s = true ∧ va_Nc E nm s)) ∧ covers x pc = true ∧ x.catchType ≠ 0 ∧ (Cond.classLink own x.catchType name).before args s = true ∧ (Cond.castable E name).before args s = true ∧ ∀ q9 : Nat, V p l e R s m args below meth c nL G A Q w kc ks x.handlerPc lv [.ref q9]
theorem v_cVX (F : FX p R s m args c cc own nL d G A) (hSF : SF s) (hSH : SH A s s.heap) {idx ci : Nat} {C : String} {T : u_T} {N : Nat} {y : MethodName} {b : ByteArray} {mL n : Nat} {rt : Option FieldType} (cs : CSV own idx C y b mL rt n) (hd : decode cc pc = .ok (.invokevirtual idx, 3)) (q0 : Nat) {b0 : Nat} {fs : List Value} (he : w[q0]? = some (b0, .inr (ci, fs))) (hc : vwCl[ci]? = some (C, T, N)) {d' : Nat} {As rest : List Value} (isC isR : List Nat) {wc wr : va_W} (hC : isC.map (fun i => w[i]?) = wc.map some) (hCf : isC.filterMap (fun i => w[i]?) = wc) (hCn : va_nd isC = true) (hR : isR.map (fun i => w[i]?) = wr.map some) (hn : va_nd isR = true) (hdis : ∀ i ∈ isR, i ∉ isC) {S SX : Type} {w1 : S → va_W} {post : Int32 → S → Prop} {wX : SX → va_W} {px : String → SX → Prop} (M0 : XI l G d' y b mL rt (.ref b0 :: As) wc w1 post wX px) (hdd : d' + 1 ≤ d) (hn1 : As.length = n) (hst : st = As.reverse ++ .ref b0 :: rest) (hcat : (rest.map fun v => v.category).sum ≤ 8) (hkc : kc + 1 ≤ R.cells ∧ ks + 6 ≤ R.slots)
    (kx : ∀ (E : String) (u : SX), px E u → Caught l p e R s m args below meth c own nL G A Q (wr ++ wX u) (kc + 1) (ks + 6) pc lv E)
    (k : ∀ (r : Int32) (u : S), post r u → V p l e R s m args below meth c nL G A Q (wr ++ w1 u) (kc + 1) (ks + 6) (pc + 3) lv (.int r :: rest)) : V p l e R s m args below meth c nL G A Q w kc ks pc lv st := by
  subst hst
  intro H locs ls hP hD hS hl
  have hfr : ∀ q, va_A wc H.size q → A q := va_free hD hS F.2.2.2.2.2.1 isC hC
  have hPc := hP.sub isC hCf
  have hDc := hD.sub isC hCn hC
  have hpre : PreV s H C b0 (va_Pc (.ref b0 :: As) (PreX G wc H.size)) As :=
    ⟨fb_PreX, va_recv F.2.2.2.2.2.2.1 hP hc he, fun U hU hW => ⟨rfl, ⟨by rw [hU], by rw [hU]; exact hPc, va_K.moved hW.alike F.2.2.2.2.2.2.1, hDc.weaken (fun _ _ _ _ => trivial)⟩, SF.warm hW hSF, by
      rw [hU]
      exact SH.moved hW.alike ((hSH.kept (H1 := H) (fun a h1 h2 => hS.2.1 a h1 h2)).narrow hfr)⟩⟩
  refine vx_calli (vx_runV (As := As) (rest := rest) ⟨F.1, F.2.1, F.2.2.1, F.2.2.2.1, F.2.2.2.2.1⟩ (M0 H.size) (cs.use F rfl rfl rfl rfl hdd) hpre rfl hn1 hl.1 rfl (lv_room hcat) hd hkc) hS (fun q _ h => hfr q h) hfr (fun q _ h => hfr q h) (fun E ce q9 u t H1 locs1 ht hvm hpx hB hz1 hk1 hS1 hcell hv hcl => ?_) (fun r u t H1 locs1 ht hvm hw hB hz1 hk1 hS1 => ?_)
  · obtain ⟨hE, hB⟩ := hB
    have hj := va_join hP hD isC isR hC hR hn hdis hk1 hfr (by rw [← ht]; exact hB.1) hB.2.2
    subst hE
    obtain ⟨pre, x, suf, name, g1, g2, g3, g4, g5, g6, g7⟩ := kx u.1 u.2 hpx
    exact vx_catch F.2.2.2.1 pre x suf g1 g2 g3 g4 g5 g6 hcell hv hcl (g7 q9 H1 locs1 ls hj.1 hj.2 hS1 hl)
  · have hj := va_join hP hD isC isR hC hR hn hdis hk1 hfr (by rw [← ht]; exact hB.1) hB.2.2
    exact k r u hw H1 locs1 ls hj.1 hj.2 hS1 hl
theorem CSH.use {y : MethodName} {b : ByteArray} {mL n idx d' : Nat} {hh : List (Nat × Nat × Nat × Nat)} (h : CSH own idx y b mL hh n) (F : FX p R s m args c cc own nL d G A) (hd : d' + 1 ≤ d) : vx_CSW R s args own idx y b mL (some .int) hh (WSH y b mL hh) (RX d') 1 6 n := by
  obtain ⟨h1, h2, h3, h4, h6, h7⟩ := h
  obtain ⟨f1, f2, f3, f4, f5, f6, f7, f8, f9⟩ := F
  refine vx_cwSW n f5 (goodIn_sub (fun w hw => ?_) (List.all_eq_true.mpr (fun w hw => List.all_eq_true.mp GW_good w ?_))) rfl rfl rfl h6 ⟨by show d' + 1 ≤ _; omega, by show 8 + (mL + 11) + 32 * d' ≤ _; omega⟩
  all_goals
    unfold va_wsS WSH at hw
    simp only [List.cons_append, List.nil_append, List.mem_cons] at hw
    rcases hw with rfl | rfl | rfl | rfl | hw
    · exact h2
    · exact h3
    · exact h4
    · exact h1
    · exact hw
theorem v_cH (F : FX p R s m args c cc own nL d G A) (hSF : SF s) (hSH : SH A s s.heap) (hNC : NC s) {idx : Nat} {y : MethodName} {b : ByteArray} {mL n : Nat} {hh : List (Nat × Nat × Nat × Nat)} (cs : CSH own idx y b mL hh n) (hd : decode cc pc = .ok (.invokestatic idx, 3)) {d' : Nat} {As rest : List Value} (isC isR : List Nat) {wc wr : va_W} (hC : isC.map (fun i => w[i]?) = wc.map some) (hCf : isC.filterMap (fun i => w[i]?) = wc) (hCn : va_nd isC = true) (hR : isR.map (fun i => w[i]?) = wr.map some) (hn : va_nd isR = true) (hdis : ∀ i ∈ isR, i ∉ isC) {S : Type} {w1 : S → va_W} {post : Int32 → S → Prop} (M0 : HM l G d' y b mL hh As wc w1 post) (hdd : d' + 1 ≤ d) (hn1 : As.length = n) (hst : st = As.reverse ++ rest) (hcat : (rest.map fun v => v.category).sum ≤ 8) (hkc : kc + 1 ≤ R.cells ∧ ks + 6 ≤ R.slots) (k : ∀ (r : Int32) (u : S), post r u → V p l e R s m args below meth c nL G A Q (wr ++ w1 u) (kc + 1) (ks + 6) (pc + 3) lv (.int r :: rest)) : V p l e R s m args below meth c nL G A Q w kc ks pc lv st := by
  subst hst
  intro H locs ls hP hD hS hl
  have hfr : ∀ q, va_A wc H.size q → A q := va_free hD hS F.2.2.2.2.2.1 isC hC
  have hPc := hP.sub isC hCf
  have hDc := hD.sub isC hCn hC
  have hpre : PreS s H (va_Pc As (PreL G wc H.size)) As :=
    ⟨fb_PreL, fun U hU hW => ⟨rfl, ⟨⟨by rw [hU], by rw [hU]; exact hPc, va_K.moved hW.alike F.2.2.2.2.2.2.1, hDc.weaken (fun _ _ _ _ => trivial)⟩, SF.warm hW hSF, by
      rw [hU]
      exact SH.moved hW.alike ((hSH.kept (H1 := H) (fun a h1 h2 => hS.2.1 a h1 h2)).narrow hfr)⟩, NC.moved hW.alike hNC⟩⟩
  refine va_calli (vx_runSW (As := As) (rest := rest) ⟨F.1, F.2.1, F.2.2.1, F.2.2.2.1, F.2.2.2.2.1⟩ (M0 H.size) (cs.use F hdd) hpre rfl hn1 hl.1 rfl (lv_room hcat) hd hkc) hS (fun q _ h => hfr q h) hfr (fun r u t H1 locs1 ht hvm hw hB hz1 hk1 hS1 => ?_)
  have hj := va_join hP hD isC isR hC hR hn hdis hk1 hfr (by rw [← ht]; exact hB.1) hB.2.2
  exact k r u hw H1 locs1 ls hj.1 hj.2 hS1 hl
theorem v_sld (F : FX p R s m args c cc own nL d G A) {b L : Nat} {xs : Nat → Int32} (hX : va_X b L xs s s.heap) (hbl : b < s.heap.size) (hbA : ¬ A b) (j : Nat) {i : Int32} (hi : i = nI j) (hj : j < L) (hL : L < 2 ^ 31) (hd : decode cc pc = .ok (.iaload, 1)) (k : V p l e R s m args below meth c nL G A Q w kc ks (pc + 1) lv (.int (xs j) :: st)) : V p l e R s m args below meth c nL G A Q w kc ks pc lv (.int i :: .ref b :: st) := by
  subst hi
  refine fun H locs ls hP hD hS hl => va_sld F.1 F.2.1 hX hbl hbA hS (vp_in_nI hj hL) hd ?_
  rw [nI_clamp (Nat.lt_trans hj hL)]
  exact k H locs ls hP hD hS hl
theorem v_slen (F : FX p R s m args c cc own nL d G A) {b L : Nat} {xs : Nat → Int32} (hX : va_X b L xs s s.heap) (hbl : b < s.heap.size) (hbA : ¬ A b) (hd : decode cc pc = .ok (.arraylength, 1)) (k : V p l e R s m args below meth c nL G A Q w kc ks (pc + 1) lv (.int (nI L) :: st)) : V p l e R s m args below meth c nL G A Q w kc ks pc lv (.ref b :: st) :=
  fun H locs ls hP hD hS hl => va_slen F.1 F.2.1 hX hbl hbA hS hd (k H locs ls hP hD hS hl)
end LCALL
