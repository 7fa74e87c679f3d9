/-! contracts of the law's own methods: what they may throw away, and the script beside the world -/
def PreZ (G : GT) (w : va_W) (sz sb L : Nat) (xs : Nat → Int32) (U : State) : Prop := PreL G w sz U ∧ va_X sb L xs U U.heap ∧ sb < sz ∧ ¬ va_A w sz sb
theorem fb_PreZ {av : List Value} {G : GT} {w : va_W} {sz sb L : Nat} {xs : Nat → Int32} : FrameBlind (va_Pc av (PreZ G w sz sb L xs)) := fun a U g mk q => by
  obtain ⟨q0, q1, q2, q3⟩ := q
  obtain ⟨r0, r1⟩ := fb_PreL a U g mk ⟨q0, q1⟩
  exact ⟨r0, r1, va_X.moved (u := U) (U := U.calling g mk a) (Vm.Alike.refl U.vm) q2, q3⟩
def HZ (l : Launch) (G : GT) (d : Nat) (y : MethodName) (b : ByteArray) (mL : Nat) (rt : Option FieldType) (av : List Value) (w : va_W) {S : Type} (w1 : S → va_W) (post : Int32 → S → Prop) (mc ms sb L : Nat) (xs : Nat → Int32) : Prop :=
  ∀ sz, Met l y (WS y b mL rt) (RC d mc ms) (va_Pc av (PreZ G w sz sb L xs)) (va_Qi post (fun u t => PoW G (va_A w sz) (w1 u) t) (va_A w sz)) mc ms (va_A w sz)
theorem hz_of {l : Launch} {G : GT} {d mc ms sb L : Nat} {xs : Nat → Int32} {y : MethodName} {b : ByteArray} {mL : Nat} {rt : Option FieldType} {av : List Value} {w : va_W} {S : Type} {w1 : S → va_W} {post : Int32 → S → Prop} (hy : plainName y.cls = true) (hlen : (lg_sl av).length ≤ mL)
    (body : ∀ (p : Program) (e : Env) (s : State) (m : MethodId) (args : Array Value) (below : List Frame) (meth : Method) (c : Code) (A : Nat → Prop) (Q : State → Prop), FX p (RC d mc ms) s m args c b y.cls mL d G A → meth.sig.returnType = rt → meth.locks = false → Q = MQ below (va_Qi post (fun u t => PoW G A (w1 u) t) A) args s mc ms A → SF s → SH A s s.heap → NC s → va_X sb L xs s s.heap → sb < s.heap.size → ¬ A sb → V p l e (RC d mc ms) s m args below meth c mL G A Q w 0 0 0 (lv_args 0 av) []) : HZ l G d y b mL rt av w w1 post mc ms sb L xs := by
  intro sz
  refine Met.ofW (cc := b) (maxL := mL) (ret := rt) hy rfl ?_
  intro p e s m args below meth c s₁ B hml hv
  obtain ⟨rfl, ⟨⟨⟨hsz, hP, hK, hD0⟩, hSF, hSH⟩, hNC⟩, hX, hb1, hb2⟩ := hv
  have hts0 := atoms_spec (ws := WS y b mL rt) B.pre
  have hown : s.vm.findClass y.cls = some m.cls := findClass_of_methodNamed B.named
  have hD : va_D (va_A w sz) w := hD0.self
  have hA : ∀ q : Nat, s.heap.size ≤ q → va_A w sz q := fun q h => Or.inr (hsz ▸ h)
  have F : FX p (RC d mc ms) s m av.toArray c b y.cls mL d G (va_A w sz) := ⟨B.exec, B.bytes, hml, hown, fun w hw => hts0 w (List.mem_cons_of_mem _ hw), hA, hK, Nat.le_refl _, Nat.le_refl _⟩
  have hl := lv_entry av (n := mL) hlen
  rw [lg_entry_eq]
  exact body p e s m av.toArray below meth c _ _ F B.returns B.notSynchronized rfl hSF hSH hNC hX (hsz.symm ▸ hb1) hb2 s.heap [] _ hP hD va_S.rf hl
section ZCALL
variable {p : Program} {l : Launch} {e : Env} {R : Room} {s : State} {m : MethodId} {args : Array Value} {below : List Frame} {meth : Method} {c : Code} {cc : ByteArray} {own : String} {nL d : Nat} {G : GT} {A : Nat → Prop} {Q : State → Prop} {w : va_W} {kc ks pc : Nat} {lv : List (Nat × Value)} {st : List Value}
theorem v_cZ (F : FX p R s m args c cc own nL d G A) (hSF : SF s) (hSH : SH A s s.heap) (hNC : NC s) {sb L : Nat} {xs : Nat → Int32} (hX : va_X sb L xs s s.heap) (hbl : sb < s.heap.size) (hbA : ¬ A sb) {idx : Nat} {y : MethodName} {b : ByteArray} {mL n : Nat} {rt : Option FieldType} (cs : CSS own idx y b mL rt n) (hd : decode cc pc = .ok (.invokestatic idx, 3)) {d' : Nat} {As rest : List Value} (isC isR : List Nat) {wc wr : va_W} (hC : isC.map (fun i => w[i]?) = wc.map some) (hCf : isC.filterMap (fun i => w[i]?) = wc) (hCn : va_nd isC = true) (hR : isR.map (fun i => w[i]?) = wr.map some) (hn : va_nd isR = true) (hdis : ∀ i ∈ isR, i ∉ isC) {S : Type} {w1 : S → va_W} {post : Int32 → S → Prop} {mc ms : Nat} (M0 : HZ l G d' y b mL rt As wc w1 post mc ms sb L xs) (hdd : d' + 1 ≤ d) (hn1 : As.length = n) (hst : st = As.reverse ++ rest) (hcat : (rest.map fun v => v.category).sum ≤ 8) (hkc : kc + mc ≤ R.cells ∧ ks + ms ≤ R.slots) (k : ∀ (r : Int32) (u : S), post r u → V p l e R s m args below meth c nL G A Q (wr ++ w1 u) (kc + mc) (ks + ms) (pc + 3) lv (.int r :: rest)) : V p l e R s m args below meth c nL G A Q w kc ks pc lv st := by
  subst hst
  intro H locs ls hP hD hS hl
  have hfr : ∀ q, va_A wc H.size q → A q := va_free hD hS F.2.2.2.2.2.1 isC hC
  have hPc := hP.sub isC hCf
  have hDc := hD.sub isC hCn hC
  have hpre : PreS s H (va_Pc As (PreZ G wc H.size sb L xs)) As :=
    ⟨fb_PreZ, fun U hU hW => ⟨rfl, ⟨⟨⟨by rw [hU], by rw [hU]; exact hPc, va_K.moved hW.alike F.2.2.2.2.2.2.1, hDc.weaken (fun _ _ _ _ => trivial)⟩, SF.warm hW hSF, by
      rw [hU]
      exact SH.moved hW.alike ((hSH.kept (H1 := H) (fun a h1 h2 => hS.2.1 a h1 h2)).narrow hfr)⟩, NC.moved hW.alike hNC⟩, by rw [hU]; exact va_X.moved hW.alike (hX.kept (hS.2.1 sb hbl hbA)), Nat.lt_of_lt_of_le hbl hS.1, fun q => hbA (hfr _ q)⟩⟩
  refine va_calli (va_runS (As := As) (rest := rest) ⟨F.1, F.2.1, F.2.2.1, F.2.2.2.1, F.2.2.2.2.1⟩ (M0 H.size) (cs.use F rfl rfl rfl rfl hdd) hpre rfl hn1 hl.1 rfl (lv_room hcat) hd ⟨hkc.1, hkc.2⟩) hS (fun q _ h => hfr q h) hfr (fun r u t H1 locs1 ht hvm hw hB hz1 hk1 hS1 => ?_)
  have hj := va_join hP hD isC isR hC hR hn hdis hk1 hfr (by rw [← ht]; exact hB.1) hB.2.2
  exact k r u hw H1 locs1 ls hj.1 hj.2 hS1 hl
end ZCALL
