/-! methods that throw: what the tables must say beside the good words (SF), what the heap must hold (SH), the contract XI, its rows -/
abbrev sIAE : String := "java/lang/IllegalArgumentException"
abbrev sISE : String := "java/lang/IllegalStateException"
abbrev sIOB : String := "java/lang/IndexOutOfBoundsException"
def excNames : List String := ["java/lang/RuntimeException", "java/lang/Exception"]
def BW : List Cond := [.castable sIAE sIAE, .castable sISE sISE, .castable sIOB sIOB, .declares (Bundle.initS "java/lang/RuntimeException"), .declares (Bundle.initS "java/lang/Exception"), .declares (Bundle.initS Bundle.tN)]
def STRS : List (Nat × String) := [(246, "no such number"), (232, "no such row or property"), (194, "place or moment out of range"), (207, "place or rank out of range"), (88, "no such line"), (183, "no such property"), (200, "place out of range"), (205, "no line counts there"), (95, "no such span of places"), (215, "no such node"), (62, "slope or offset out of range"), (73, "no room for another line"), (101, "no such life"), (103, "by out of range"), (109, "the offset would be out of range"), (118, "place or slope out of range"), (139, "moment out of range"), (178, "no state is saved")]
def SF (U : State) : Prop := (∀ w ∈ BW, va_Nw w U) ∧ ∀ q ∈ STRS, ∃ sa, vk_R RX7 q.1 q.2 sa U
theorem SF.warm {s U : State} (hW : s.WarmedH U.vm) (h : SF s) : SF U := by
  refine ⟨fun w hw => ?_, fun q hq => ?_⟩
  · have h1 := h.1 w hw
    simp only [BW, List.mem_cons, List.not_mem_nil, or_false] at hw
    rcases hw with rfl | rfl | rfl | rfl | rfl | rfl
    · exact va_Nw.warmC hW h1
    · exact va_Nw.warmC hW h1
    · exact va_Nw.warmC hW h1
    · exact va_Nw.warmD hW h1
    · exact va_Nw.warmD hW h1
    · exact va_Nw.warmD hW h1
  · obtain ⟨sa, h1⟩ := h.2 q hq
    exact ⟨sa, vk_R.warm hW h1⟩
theorem BW_ot : ∀ w ∈ BW, w.onTables = true := by
  intro w hw
  simp only [BW, List.mem_cons, List.not_mem_nil, or_false] at hw
  rcases hw with rfl | rfl | rfl | rfl | rfl | rfl <;> rfl
theorem SF.same {u U : State} (hv : u.vm = U.vm) (h : SF u) : SF U := ⟨fun w hw => va_Nw.same (BW_ot w hw) hv (h.1 w hw), fun q hq => by
  obtain ⟨sa, h1⟩ := h.2 q hq
  exact ⟨sa, vk_R.same hv.symm h1⟩⟩
def SH (A : Nat → Prop) (U : State) (H : Heap) : Prop := vx_Zq Bundle.tN "UNASSIGNED_STACK" Bundle.steD A U H ∧ vx_Zq Bundle.tN "SUPPRESSED_SENTINEL" Bundle.listD A U H
theorem SH.moved {A : Nat → Prop} {u U : State} {H : Heap} (hvm : u.vm.Alike U.vm) (h : SH A u H) : SH A U H := ⟨h.1.moved hvm, h.2.moved hvm⟩
theorem SH.kept {A : Nat → Prop} {U : State} {H H1 : Heap} (h : SH A U H) (hq : ∀ a : Nat, a < H.size → ¬ A a → H1[a]? = H[a]?) : SH A U H1 := ⟨h.1.kept hq, h.2.kept hq⟩
theorem SH.narrow {A B : Nat → Prop} {U : State} {H : Heap} (h : SH A U H) (hAB : ∀ q, B q → A q) : SH B U H := ⟨h.1.narrow hAB, h.2.narrow hAB⟩
theorem xg_IAE : ∀ w ∈ (vx_atS RX7 64 sIAE excNames).filter goodWord, w ∈ GW := fun w h => gw_of ((by decide +kernel : ∀ w ∈ (vx_atS RX7 64 sIAE excNames).filter goodWord, w ∈ lw_tbl) w h) (List.mem_filter.mp h).2
theorem xb_IAE : ∀ w ∈ (vx_atS RX7 64 sIAE excNames).filter (fun w => !goodWord w), w ∈ BW := by decide +kernel
theorem xo_IAE : ∀ w ∈ vx_atS RX7 64 sIAE excNames, vx_ot w = true := by decide +kernel
theorem xg_ISE : ∀ w ∈ (vx_atS RX7 75 sISE excNames).filter goodWord, w ∈ GW := fun w h => gw_of ((by decide +kernel : ∀ w ∈ (vx_atS RX7 75 sISE excNames).filter goodWord, w ∈ lw_tbl) w h) (List.mem_filter.mp h).2
theorem xb_ISE : ∀ w ∈ (vx_atS RX7 75 sISE excNames).filter (fun w => !goodWord w), w ∈ BW := by decide +kernel
theorem xo_ISE : ∀ w ∈ vx_atS RX7 75 sISE excNames, vx_ot w = true := by decide +kernel
theorem xg_IOB : ∀ w ∈ (vx_atS RX7 90 sIOB excNames).filter goodWord, w ∈ GW := fun w h => gw_of ((by decide +kernel : ∀ w ∈ (vx_atS RX7 90 sIOB excNames).filter goodWord, w ∈ lw_tbl) w h) (List.mem_filter.mp h).2
theorem xb_IOB : ∀ w ∈ (vx_atS RX7 90 sIOB excNames).filter (fun w => !goodWord w), w ∈ BW := by decide +kernel
theorem xo_IOB : ∀ w ∈ vx_atS RX7 90 sIOB excNames, vx_ot w = true := by decide +kernel
theorem xn_ok : ∀ n ∈ excNames, Bundle.fit n = true := by decide +kernel
def PreX (G : GT) (w : va_W) (sz : Nat) (U : State) : Prop := PreW G w sz U ∧ SF U ∧ SH (va_A w sz) U U.heap
theorem fb_PreX {av : List Value} {G : GT} {w : va_W} {sz : Nat} : FrameBlind (va_Pc av (PreX G w sz)) := fun a U g mk q => by
  obtain ⟨q0, ⟨q1, qP, qK, qD⟩, q2, q3⟩ := q
  exact ⟨q0, ⟨q1, qP, va_K.moved (u := U) (U := U.calling g mk a) (Vm.Alike.refl U.vm) qK, qD⟩, SF.same (u := U) (U := U.calling g mk a) rfl q2, SH.moved (u := U) (U := U.calling g mk a) (Vm.Alike.refl U.vm) q3⟩
def xC (G : GT) {SX : Type} (wX : SX → va_W) (px : String → SX → Prop) (A : Nat → Prop) : String → State → State → Prop := vx_X (S := String × SX) (fun q => px q.1 q.2) (fun E q t => E = q.1 ∧ PoW G A (wX q.2) t) A
def XI (l : Launch) (G : GT) (d : Nat) (y : MethodName) (b : ByteArray) (mL : Nat) (rt : Option FieldType) (av : List Value) (w : va_W) {S SX : Type} (w1 : S → va_W) (post : Int32 → S → Prop) (wX : SX → va_W) (px : String → SX → Prop) : Prop :=
  ∀ sz, vx_Met l y (WS y b mL rt) (RX d) (va_Pc av (PreX G w sz)) (va_Qi post (fun u t => PoW G (va_A w sz) (w1 u) t) (va_A w sz)) (xC G wX px (va_A w sz)) 1 6 (va_A w sz)
theorem xi_of {l : Launch} {G : GT} {d : Nat} {y : MethodName} {b : ByteArray} {mL : Nat} {rt : Option FieldType} {av : List Value} {w : va_W} {S SX : Type} {w1 : S → va_W} {post : Int32 → S → Prop} {wX : SX → va_W} {px : String → SX → Prop} (hy : plainName y.cls = true) (hlen : (lg_sl av).length ≤ mL)
    (body : ∀ (p : Program) (e : Env) (s : State) (m : MethodId) (args : Array Value) (below : List Frame) (meth : Method) (c : Code) (A : Nat → Prop) (Q : State → Prop), FX p (RX d) s m args c b y.cls mL d G A → meth.sig.returnType = rt → meth.locks = false → Q = vx_MQ below (va_Qi post (fun u t => PoW G A (w1 u) t) A) (xC G wX px A) args s 1 6 A → SF s → SH A s s.heap → (∀ x ∈ c.exceptionTable.toList, False) → V p l e (RX d) s m args below meth c mL G A Q w 0 0 0 (lv_args 0 av) []) : XI l G d y b mL rt av w w1 post wX px := by
  intro sz
  refine vx_ofW (cc := b) (maxL := mL) (ret := rt) hy rfl ?_
  intro p e s m args below meth c s₁ B hml htab hv
  obtain ⟨rfl, ⟨hsz, hP, hK, hD0⟩, hSF, hSH⟩ := hv
  have hts0 := atoms_spec (ws := WS y b mL rt) B.pre
  have hown : s.vm.findClass y.cls = some m.cls := findClass_of_methodNamed B.named
  have hD : va_D (va_A w sz) w := hD0.self
  have hA : ∀ q : Nat, s.heap.size ≤ q → va_A w sz q := fun q h => Or.inr (hsz ▸ h)
  have F : FX p (RX d) s m av.toArray c b y.cls mL d G (va_A w sz) := ⟨B.exec, B.bytes, hml, hown, fun w hw => hts0 w (List.mem_cons_of_mem _ hw), hA, hK, Nat.le_refl _, Nat.le_refl _⟩
  have hl := lv_entry av (n := mL) hlen
  rw [lg_entry_eq]
  exact body p e s m av.toArray below meth c _ _ F B.returns B.notSynchronized rfl hSF hSH htab s.heap [] _ hP hD va_S.rf hl
section VTHROW
variable {p : Program} {l : Launch} {e : Env} {R : Room} {s : State} {m : MethodId} {args : Array Value} {below : List Frame} {meth : Method} {c : Code} {cc : ByteArray} {own : String} {nL d : Nat} {G : GT} {A : Nat → Prop} {Q : State → Prop} {w : va_W} {pc : Nat} {lv : List (Nat × Value)} {st : List Value}
theorem v_iretX (F : FX p R s m args c cc own nL d G A) (hr : meth.sig.returnType = some .int) (hlocks : meth.locks = false) {S SX : Type} {w1 : S → va_W} {post : Int32 → S → Prop} {wX : SX → va_W} {px : String → SX → Prop} (hQ : Q = vx_MQ below (va_Qi post (fun u t => PoW G A (w1 u) t) A) (xC G wX px A) args s 1 6 A) {v : Int32} (hd : decode cc pc = .ok (.ireturn, 1)) (u : S) (hw : w = w1 u) (hp : post v u) : V p l e R s m args below meth c nL G A Q w 0 0 pc lv [.int v] := by
  subst hQ
  exact fun H locs ls hP hD hS hl => vx_ret (W.widen (k := 1) (n := 6) (Nat.zero_le _) (Nat.zero_le _) (v_iret (kc := 1) (ks := 6) F hr hlocks rfl hd u hw hp H locs ls hP hD hS hl))
theorem v_throw {cls : String} {ik is ic : Nat} {text : String} (F : FX p R s m args c cc RX7 nL d G A) (hlocks : meth.locks = false) {S SX : Type} {w1 : S → va_W} {post : Int32 → S → Prop} {wX : SX → va_W} {px : String → SX → Prop} (hQ : Q = vx_MQ below (va_Qi post (fun u t => PoW G A (w1 u) t) A) (xC G wX px A) args s 1 6 A)
    (hst : l.stackTraces = false) (hSF : SF s) (hSH : SH A s s.heap) (htab : ∀ x ∈ c.exceptionTable.toList, False) (hcls : Bundle.fit cls = true) (hk : Cond.classLink RX7 ik cls ∈ GW) (hini : Cond.initialized cls ∈ GW) (hs : (is, text) ∈ STRS)
    (hg : ∀ w ∈ (vx_atS RX7 ic cls excNames).filter goodWord, w ∈ GW) (hb : ∀ w ∈ (vx_atS RX7 ic cls excNames).filter (fun w => !goodWord w), w ∈ BW) (ho : ∀ w ∈ vx_atS RX7 ic cls excNames, vx_ot w = true)
    (d0 : decode cc pc = .ok (.new ik, 3)) (d3 : decode cc (pc + 3) = .ok (.dup, 1)) (d4 : decode cc (pc + 4) = .ok (.ldc is, 2)) (d6 : decode cc (pc + 6) = .ok (.invokespecial ic, 3)) (d9 : decode cc (pc + 9) = .ok (.athrow, 1))
    (hd : 6 ≤ d) (hcat : (st.map fun v => v.category).sum ≤ 8) (hRc : 1 ≤ R.cells) (hRs : 6 ≤ R.slots) (u : SX) (hw : w = wX u) (hp : px cls u) : V p l e R s m args below meth c nL G A Q w 0 0 pc lv st := by
  subst hQ; subst hw
  intro H locs ls hP hD hS hl
  obtain ⟨f1, f2, f3, f4, f5, f6, f7, f8, f9⟩ := F
  obtain ⟨sa, hsa⟩ := hSF.2 _ hs
  have hlen : excNames.length = 2 := rfl
  refine vx_throwS f1 f2 hst (own := RX7) (names := excNames) f4 hcls xn_ok (f5 _ hk) (f5 _ hini) hsa (vx_hat (fun w hw => f5 _ (hg w hw)) hb (fun w hw => va_Nw.use (BW_ot w hw) (hSF.1 w hw))) ?_ hSH.1 hSH.2 hS (by rw [f3]; exact hl.1) d0 d3 d4 d6 d9 (fun x hx => (htab x hx).elim) (by rw [hlen]; omega) (by rw [hlen]; omega) (by omega) (by omega) hlocks (fun t ht hz hk9 => ?_) hS.2.2 (Nat.le_refl _) (Nat.le_refl _)
  · intro w hw
    rcases List.mem_cons.mp hw with rfl | hw
    · rfl
    · rcases List.mem_cons.mp hw with rfl | hw
      · rfl
      · exact ho w hw
  · refine ⟨(cls, u), hp, ⟨rfl, hP.kept (fun k q hq => hk9 q.1 (hP k q hq).lt), va_K.moved ht f7, hD⟩, Nat.le_trans hS.1 hz, fun q h1 h2 => ?_⟩
    rw [hk9 q (Nat.lt_of_lt_of_le h1 hS.1)]
    exact hS.2.1 q h1 h2
theorem v_throwW {cls : String} {ik is ic : Nat} {text : String} (F : FX p R s m args c cc RX7 nL d G A) (hlocks : meth.locks = false) {S SX : Type} {w1 : S → va_W} {post : Int32 → S → Prop} {wX : SX → va_W} {px : String → SX → Prop} (hQ : Q = vx_MQ below (va_Qi post (fun u t => PoW G A (w1 u) t) A) (xC G wX px A) args s 1 6 A)
    (hst : l.stackTraces = false) (hSF : SF s) (hSH : SH A s s.heap) (htab : ∀ x ∈ c.exceptionTable.toList, False) (hcls : Bundle.fit cls = true) (hk : Cond.classLink RX7 ik cls ∈ GW) (hini : Cond.initialized cls ∈ GW) (hs : (is, text) ∈ STRS)
    (hg : ∀ w ∈ (vx_atS RX7 ic cls excNames).filter goodWord, w ∈ GW) (hb : ∀ w ∈ (vx_atS RX7 ic cls excNames).filter (fun w => !goodWord w), w ∈ BW) (ho : ∀ w ∈ vx_atS RX7 ic cls excNames, vx_ot w = true)
    (d0 : decode cc pc = .ok (.new ik, 3)) (d3 : decode cc (pc + 3) = .ok (.dup, 1)) (d4 : decode cc (pc + 4) = .ok (.ldc_w is, 3)) (d6 : decode cc (pc + 7) = .ok (.invokespecial ic, 3)) (d9 : decode cc (pc + 10) = .ok (.athrow, 1))
    (hd : 6 ≤ d) (hcat : (st.map fun v => v.category).sum ≤ 8) (hRc : 1 ≤ R.cells) (hRs : 6 ≤ R.slots) (u : SX) (hw : w = wX u) (hp : px cls u) : V p l e R s m args below meth c nL G A Q w 0 0 pc lv st := by
  subst hQ; subst hw
  intro H locs ls hP hD hS hl
  obtain ⟨f1, f2, f3, f4, f5, f6, f7, f8, f9⟩ := F
  obtain ⟨sa, hsa⟩ := hSF.2 _ hs
  have hlen : excNames.length = 2 := rfl
  refine vx_throwSW f1 f2 hst (own := RX7) (names := excNames) f4 hcls xn_ok (f5 _ hk) (f5 _ hini) hsa (vx_hat (fun w hw => f5 _ (hg w hw)) hb (fun w hw => va_Nw.use (BW_ot w hw) (hSF.1 w hw))) ?_ hSH.1 hSH.2 hS (by rw [f3]; exact hl.1) d0 d3 d4 d6 d9 (fun x hx => (htab x hx).elim) (by rw [hlen]; omega) (by rw [hlen]; omega) (by omega) (by omega) hlocks (fun t ht hz hk9 => ?_) hS.2.2 (Nat.le_refl _) (Nat.le_refl _)
  · intro w hw
    rcases List.mem_cons.mp hw with rfl | hw
    · rfl
    · rcases List.mem_cons.mp hw with rfl | hw
      · rfl
      · exact ho w hw
  · refine ⟨(cls, u), hp, ⟨rfl, hP.kept (fun k q hq => hk9 q.1 (hP k q hq).lt), va_K.moved ht f7, hD⟩, Nat.le_trans hS.1 hz, fun q h1 h2 => ?_⟩
    rw [hk9 q (Nat.lt_of_lt_of_le h1 hS.1)]
    exact hS.2.1 q h1 h2
end VTHROW
/-- where the arguments leave nothing to throw -/
theorem MI_weak {l : Launch} {G : GT} {d : Nat} {y : MethodName} {b : ByteArray} {mL : Nat} {rt : Option FieldType} {av : List Value} {w : va_W} {S : Type} {w1 : S → va_W} {post post' : Int32 → S → Prop} (h : MI l G d y b mL rt av w w1 post) (hp : ∀ r u, post r u → post' r u) : MI l G d y b mL rt av w w1 post' := by
  intro sz p e a1 a2 a3 s m args below h1 h2 h3 h4
  obtain ⟨n, o, b1, b2, b3, ⟨⟨⟨r, u, c1, c2, c3⟩, c4⟩, b5⟩⟩ := h sz p e a1 a2 a3 s m args below h1 h2 h3 h4
  exact ⟨n, o, b1, b2, b3, ⟨⟨⟨r, u, c1, hp r u c2, c3⟩, c4⟩, b5⟩⟩
