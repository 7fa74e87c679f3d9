/-! THE CLAIM OUT OF ONE WALK OF THE LAW'S BODY. Your part is whole_start (and what it stands on); all else here is the same for every law, but numbers. -/
def R_law : String := "LineLivesLaw"
def lw_P (b : Addr) (xs : List Int32) (args : Array Value) (s : State) : Prop := args = #[.ref b] ∧ s.IntsAt b xs ∧ xs.length ≤ 260 ∧ (Jvm.Cond.and given_1 narrow_1).before args s = true
/-- what a walk over the start with the record d0 says of its end, said of the start itself -/
theorem lw_closed {s t : State} {o : Outcome} {d0 : Drawn} {L : List Loc} {k n : Nat} (hd0 : s.drawn.sameBut d0 lw_cs) (hv : ∃ v, o = .returned v) (hW : (s.setDrawn d0).WarmedH t.vm) (hs : (s.setDrawn d0).sameButNew ({ t with vm := s.vm } : State) L k n) : State.butDraws s t lw_cs (fun t1 => Framed s o t1 L k n) := by
  have h2 : t.drawn = d0 := congrArg State.drawn hs.1
  refine ⟨⟨hv, hW, State.sameButNew.setDrawn hs s.drawn⟩, ?_, by decide⟩
  rw [h2]
  exact hd0
def lw_Q (_ : Array Value) (s : State) (o : Outcome) (t : State) : Prop := o = .returned (some (.int 1)) ∧ State.butDraws s t lw_cs (fun t1 => Framed s o t1 [] 658678 7125435)
def lw_Z (below : List Frame) (a : Array Value) (s : State) : State → Prop := fun t => ∃ o, t.status = .running ∧ Ended t below o ∧ lw_Q a s o t
/-- the law's own end, with 1 on the stack, nothing written that was there before, its room as the claim has it; d0: the record of draws at this point (at the entry s.drawn: begin with 'refine W.base ?_' and 'have hd0 := Drawn.sameBut.refl s.drawn lw_cs') -/
theorem lw_ret {p : Program} {l : Launch} {e : Env} {s : State} {m : MethodId} {below : List Frame} {meth : Method} {c : Code} {b : Nat} {d0 : Drawn} (hd0 : s.drawn.sameBut d0 lw_cs) (hx : p.tables.exec = Jvm.exec) (hb : c.code = code) (hr : meth.sig.returnType = ret) (hlocks : meth.locks = false) {pc : Nat} {H : Heap} {ls : Array Slot} (hdg : decode code pc = .ok (.ireturn, 1)) : W p l e room_1 (s.setDrawn d0) m #[Value.ref b] below meth c H [] 658678 7125435 (lw_Z below #[Value.ref b] s) (F0 m pc ls [.int 1]) := by
  intro T hT X
  obtain ⟨fs, hret, hrun, hended, hW, hframe⟩ := X.leave (v := some (.int 1)) (hlocks := hlocks) (fun h => by rw [hr] at h; cases h)
  have hmeth' : T.vm.method? m = some meth := X.method'
  refine ⟨T.setFrames fs, ?_, .returned (some (.int 1)), hrun, hended, rfl, lw_closed hd0 ⟨_, rfl⟩ hW hframe⟩
  jvm_step X.here [X.here.top, hx, hb, hdg, hmeth', hr, ret, narrow_b1]
  (try refine ⟨rfl, ?_⟩); (try refine ⟨rfl, ?_⟩)
  first | (intro acts; rw [hret _ acts rfl rfl rfl]) | rw [hret _ _ rfl rfl rfl]
  exact Steps.refl _
/-- what holds at the law's entry: the machine, the code, the tables' words (any of lw_tbl by 'hts w (by decide +kernel)'), the script of L ints xs at the cell b, what the Statement gives of the start (any of its parts by flat_of_before) -/
def lw_At (p : Program) (s : State) (m : MethodId) (meth : Method) (c : Code) (b L : Nat) (xs : Nat → Int32) : Prop :=
  p.tables.exec = Jvm.exec ∧ c.code = code ∧ meth.sig.returnType = ret ∧ c.maxLocals = 7 ∧ s.vm.findClass R_law = some m.cls ∧ (∀ w ∈ lw_tbl, w.before #[Value.ref b] s = true) ∧ va_X b L xs s s.heap ∧ b < s.heap.size ∧ meth.locks = false ∧ (Jvm.Cond.and given_1 narrow_1).before #[Value.ref b] s = true
-- ===== YOUR PART BEGINS =====
theorem ci_RL_107 : CSI RL 107 yX7_init cX7_init 1 0 := ⟨wC_yX7_init, wM_RL_107, wIm_yX7_init, wI_RX7, rfl, by decide +kernel, by decide⟩
theorem TXOK_00 : TXOK (fun _ => 0) 0 := ⟨Nat.zero_le _, fun i hi => absurd hi (Nat.not_lt_zero i)⟩
theorem lr_0 {fp lp : Nat → Int32} (hG : GEO fp lp) : LIV 0 (fun _ => 0) 0 0 0 (fun _ => 0) 0 ((fun _ => 0), (fun _ => 0), 0, -1) (fp, lp, (fun _ => 0), (fun _ => 0), -1) ((fun _ => 0), -1) (fun _ => 0) 0 (0, 0, false, nI 0, nI 0, 0) :=
  ⟨Nat.zero_le _, by decide, fun l hl => absurd hl (Nat.not_lt_zero l), Nat.zero_le _, fun i hi => absurd hi (Nat.not_lt_zero i), TXOK_00, ⟨Nat.zero_le _, Nat.zero_le _, Nat.zero_le _⟩, ⟨⟨Or.inl rfl, fun q => absurd q (by decide)⟩, ⟨hG, Or.inl rfl, fun q => absurd (show (-1 : Int32) = nI 0 from q) (by decide)⟩, ⟨Or.inl rfl, fun q => absurd q (by decide)⟩⟩, Nat.zero_le _, by decide⟩
set_option maxHeartbeats 4000000 in
set_option maxRecDepth 100000 in
theorem whole_start {p : Program} {e : Env} {s : State} {m : MethodId} {below : List Frame} {meth : Method} {c : Code} (l : Launch) (hflags : l.flags = flags0) {b L : Nat} {xs : Nat → Int32} (hL : L ≤ 260) (C0 : lw_At p s m meth c b L xs) : W p l e room_1 s m #[Value.ref b] below meth c s.heap [] 0 0 (lw_Z below #[Value.ref b] s) (entryFrame m ([Value.ref b] : List Value).toArray 7) := by
  obtain ⟨hx, hb, hr, hml, hown, hts, hX, hbl, hlocks, hgv⟩ := id C0
  have hgw : ∀ w ∈ GW, w.before #[Value.ref b] s = true := fun w h => hts w (gw_tbl w h)
  obtain ⟨G, hKs⟩ := k_start hgw
  have F : FX p room_1 s m #[Value.ref b] c code RL 7 2000 G (fun q => s.heap.size ≤ q) := ⟨hx, hb, hml, hown, hgw, fun q h => h, hKs, Nat.le_of_ble_eq_true rfl, Nat.le_of_ble_eq_true rfl⟩
  have hSF : SF s := sf_start hts (hKs.1 7 _ rfl).2.1
  have hNM : NM s := nm_start hts
  have hNC : NC s := nc_start
  have hSH : SH (fun q => s.heap.size ≤ q) s s.heap := sh_start hts hgv
  have hst : l.stackTraces = false := by
    show (!l.flags.contains noTraceFlag) = false
    rw [hflags]; decide +kernel
  have hbA : ¬ (fun q : Nat => s.heap.size ≤ q) b := Nat.not_le.mpr hbl
  have hend : ∀ (w : va_W) (kc ks : Nat) (lv : List (Nat × Value)), kc ≤ 658678 → ks ≤ 7125435 → V p l e room_1 s m #[Value.ref b] below meth c 7 G (fun q => s.heap.size ≤ q) (lw_Z below #[Value.ref b] s) w kc ks 140 lv [.int 1] :=
    fun w kc ks lv h1 h2 H locs ls hP hD hS hl => va_forget (fun q hq => hS.2.2 q hq) (W.widen h1 h2 (W.base (lw_ret (Drawn.sameBut.refl s.drawn lw_cs) hx hb hr hlocks dL_law_140)))
  have hl := lv_entry ([.ref b]) (n := 7) (Nat.le_of_ble_eq_true rfl)
  rw [lg_entry_eq]
  suffices K : V p l e room_1 s m #[Value.ref b] below meth c 7 G (fun q => s.heap.size ≤ q) (lw_Z below #[Value.ref b] s) [] 0 0 0 [(0, .ref b)] [] from K s.heap [] _ (fun k q h => by simp at h) ⟨fun i j p q h => by simp at h, fun k q h => by simp at h⟩ va_S.rf hl
  refine v_new F inlX7 (ci := 7) rfl tyX7 tyX7_ok wL_RL_10 wN_RX7 wI_RX7 [.null, .null, .null, .null, .null, .null] (fun j hj => by rcases (show j = 0 ∨ j = 1 ∨ j = 2 ∨ j = 3 ∨ j = 4 ∨ j = 5 by omega) with rfl | rfl | rfl | rfl | rfl | rfl <;> rfl) (Nat.le_of_ble_eq_true rfl) (Nat.le_of_ble_eq_true rfl) dL_law_0 (fun q7 => ?_)
  refine v_w (w' := [(q7, .inr (7, [.null, .null, .null, .null, .null, .null]))]) rfl ?_
  refine v_dup F dL_law_3 rfl ?_
  refine v_cI F hNM ci_RL_107 dL_law_4 [0] [] (wc := [(q7, .inr (7, [.null, .null, .null, .null, .null, .null]))]) (wr := []) rfl rfl rfl rfl rfl (by decide) (m_X7_init l G q7) (by decide) rfl rfl (Nat.le_of_ble_eq_true rfl) ⟨(Nat.le_of_ble_eq_true rfl), (Nat.le_of_ble_eq_true rfl)⟩ (fun u1 hu1 => ?_)
  obtain ⟨ad, fp, lp⟩ := u1
  obtain ⟨hq7, hG⟩ := hu1
  have hq7 : ad 0 = q7 := hq7
  have hG : GEO fp lp := hG
  subst hq7
  refine v_w (w' := wC ad G ((fun _ => 0), 0, 0, 0) ((fun _ => 0), 0) ((fun _ => 0), (fun _ => 0), 0, -1) (fp, lp, (fun _ => 0), (fun _ => 0), -1) ((fun _ => 0), -1) ((fun _ => 0), 0) (0, 0, false, nI 0, nI 0, 0)) rfl ?_
  refine v_widen (k' := 18 + 65 * 0) (n' := 1608 + 390 * 0) (Nat.le_of_ble_eq_true rfl) (Nat.le_of_ble_eq_true rfl) ?_
  refine v_astore_n (lv' := [(1, .ref (ad 0)), (0, .ref b)]) F dL_law_7 1 rfl (by decide) rfl ?_
  refine v_iconst (v := nI 1) F dL_law_8 (by decide) ?_
  refine v_istore_n (lv' := [(2, .int (nI 1)), (1, .ref (ad 0)), (0, .ref b)]) F dL_law_9 2 rfl (by decide) rfl ?_
  have J28 : ∀ tn : Nat, tn ≤ 14 → V p l e room_1 s m #[Value.ref b] below meth c 7 G (fun q => s.heap.size ≤ q) (lw_Z below #[Value.ref b] s) (wC ad G ((fun _ => 0), 0, 0, 0) ((fun _ => 0), 0) ((fun _ => 0), (fun _ => 0), 0, -1) (fp, lp, (fun _ => 0), (fun _ => 0), -1) ((fun _ => 0), -1) ((fun _ => 0), 0) (0, 0, false, nI 0, nI 0, 0)) (18 + 65 * 0) (1608 + 390 * 0) 28 [(2, .int (nI 1)), (1, .ref (ad 0)), (0, .ref b)] [.int (nI tn)] := by
    intro tn htn
    refine v_istore_n (lv' := [(3, .int (nI tn)), (2, .int (nI 1)), (1, .ref (ad 0)), (0, .ref b)]) F dL_law_28 3 rfl (by decide) rfl ?_
    refine v_iconst (v := nI 0) F dL_law_29 (by decide) ?_
    refine v_istore (lv' := [(4, .int (nI 0)), (3, .int (nI tn)), (2, .int (nI 1)), (1, .ref (ad 0)), (0, .ref b)]) F dL_law_30 (by decide) rfl ?_
    exact law_loop l G F hSF hSH hNC hst hX hbl hbA hL ad _ _ _ tn htn hend 15 0 _ _ _ _ _ _ _ _ _ (by omega) (Nat.zero_le _) (lr_0 hG)
  refine v_aload_n F dL_law_10 0 rfl rfl ?_
  refine v_slen F hX hbl hbA dL_law_11 ?_
  refine v_iconst (v := nI 4) F dL_law_12 (by decide) ?_
  refine v_idiv F dL_law_13 (by decide) ?_
  refine v_topi (nI (L / 4)) (pk_div (by omega) (by decide) (by decide)) ?_
  refine v_bipush (v := nI 14) F dL_law_14 (by decide) ?_
  refine v_icmp_le F 24 dL_law_16 (by decide) (fun hc => ?_) (fun _ => ?_)
  · replace hc := nK (a := L / 4) (b := 14) (by omega) (by decide) hc
    refine v_aload_n F dL_law_24 0 rfl rfl ?_
    refine v_slen F hX hbl hbA dL_law_25 ?_
    refine v_iconst (v := nI 4) F dL_law_26 (by decide) ?_
    refine v_idiv F dL_law_27 (by decide) ?_
    refine v_topi (nI (L / 4)) (pk_div (by omega) (by decide) (by decide)) ?_
    exact J28 (L / 4) hc
  · refine v_bipush (v := nI 14) F dL_law_19 (by decide) ?_
    refine v_goto F 28 dL_law_21 (by decide) ?_
    exact J28 14 (Nat.le_refl _)
-- ===== YOUR PART ENDS =====
set_option maxHeartbeats 4000000 in
theorem lw_walk (l : Launch) (hflags : l.flags = flags0) (b : Addr) (xs : List Int32) : MetFree l x (headSpec (Jvm.Cond.code x code maxLocals ret :: tables_1) room_1) (lw_P b xs) (fun _ _ _ _ _ => True) lw_Q := by
  refine MetFree.of_bodyS (code := code) (maxLocals := maxLocals) (ret := ret) (by decide) ?_ ?_
  · intro args s m h hn
    obtain ⟨meth, c, h1, h2, h3, h4, h5, h6, -, -⟩ := Cond.code_spec hn (atoms_spec (ws := Jvm.Cond.code x code maxLocals ret :: tables_1) h _ List.mem_cons_self)
    exact ⟨meth, c, h1, h2, h3, h4, h5, h6⟩
  · intro p e s m args below meth c s₁ B hml0 hP _
    obtain ⟨rfl, hx, hbd, hgv⟩ := hP
    obtain ⟨scr, harrAt, hlist, hof, hsmall⟩ := hx
    obtain ⟨hcb, hkn, -, -⟩ := State.arrayAt?_spec harrAt
    have hown : s.vm.findClass R_law = some m.cls := findClass_of_methodNamed B.named
    have hts0 : ∀ c ∈ (Jvm.Cond.code x code maxLocals ret :: tables_1), c.before #[Value.ref b] s = true := atoms_spec (ws := Jvm.Cond.code x code maxLocals ret :: tables_1) B.pre
    have hts : ∀ w ∈ lw_tbl, w.before #[Value.ref b] s = true := k2_hts_sels lw_privs (fun w hw => hts0 w (List.mem_cons_of_mem _ hw)) lw_privs_ok
    have hml : c.maxLocals = 7 := B.maxLocals_eq (hts0 _ List.mem_cons_self)
    have X₀ : Stand p l e room_1 s m #[Value.ref b] below meth c s₁ [] 0 0 := Stand.of_body B
    have hh0 : s₁.heap = s.heap := by rw [B.state]; rfl
    have hsz : scr.slots.size = xs.length := by rw [← Array.length_toList, hlist, List.length_map]
    have hval : ∀ j : Nat, j < xs.length → scr.slots[j]? = some (.int (xs.getD j 0)) := fun j hj => by
      rw [← Array.getElem?_toList, hlist]
      simp [hj]
    have hbl : b < s.heap.size := (Array.getElem?_eq_some_iff.mp hcb).1
    have hX : va_X b xs.length (fun j => xs.getD j 0) s s.heap := ⟨scr, hcb, hof, hkn, hsz, hval⟩
    have K : W p l e room_1 s m #[Value.ref b] below meth c s₁.heap [] 0 0 (lw_Z below #[Value.ref b] s) (entryFrame m ([Value.ref b] : List Value).toArray 7) := by
      rw [hh0]
      exact whole_start l hflags hbd ⟨B.exec, B.bytes, B.returns, hml, hown, hts, hX, hbl, B.notSynchronized, hgv⟩
    obtain ⟨t, a1, o, b1, b2, b3⟩ := K s₁ rfl X₀
    exact ⟨t, o, a1, b1, b2, b3⟩
theorem lw_pre_spec {args : Array Value} {s : State} (h : (Jvm.Cond.and given_1 narrow_1).before args s = true) (hr : rest_1_c.before args s = true) : ∃ (b : Addr) (xs : List Int32), lw_P b xs args s := by
  have hs := flat_of_before _ h
  have hq := flat_of_before _ hr
  have hc : (Cond.count 1).before args s = true := hs _ (by decide +kernel)
  have harr : (Cond.arrayOf (.arg 0) .int).before args s = true := hs _ (by decide +kernel)
  have hle : (Cond.le (.length (.arg 0)) (.int 260)).before args s = true := hs _ (by decide +kernel)
  have hlen : (Cond.isInt (.length (.arg 0))).before args s = true := hq _ (by decide +kernel)
  have hall : (Cond.all (.arg 0) (.isInt (.elem (.arg 0) (.index 0)))).before args s = true := hq _ (by decide +kernel)
  obtain ⟨b, xs, hb, hx⟩ := State.ints_of_pre rfl harr hlen hall
  have hsm : xs.length < 2 ^ 31 := hx.choose_spec.2.2.2
  have hev : (Term.length (.arg 0)).eval args s none [] s = some (.int xs.length.toInt32) := hx.length_eval hb
  have hv := Cond.le_ints hev (show (Term.int 260).eval args s none [] s = some (.int 260) from rfl)
  have hd : xs.length.toInt32 ≤ 260 := by
    simpa [Cond.before, Cond.holds, hv] using hle
  have hN : xs.length ≤ 260 := (Int32.ofNat_le_ofNat hsm (by decide)).mp (show Int32.ofNat xs.length ≤ Int32.ofNat 260 from hd)
  exact ⟨b, xs, Cond.one_arg hc (show args[0]? = some (.ref b) from hb), hx, hN, h⟩
theorem lw_comes (l : Launch) (hflags : l.flags = flags0) : Comes l x (Jvm.Cond.code x code maxLocals ret :: tables_1) room_1 (fun tb e args s => Calls_1 tb e args s ∧ rest_1 tb e args s ∧ Pre_1 tb e args s)
    (fun _ _ args s o t => lw_Q args s o t) := by
  intro p e ha hc hk s m args below hf hfit hheap happ hpre
  obtain ⟨b, xs, hP⟩ := lw_pre_spec hpre.2.2 hpre.2.1
  obtain ⟨k, o, h1, h2, h3, hQ⟩ := lw_walk l hflags b xs p e ha hc hk s m args below hf ((Spec.applies_iff_loose hf).mp happ).1 hP trivial
  exact ⟨k, o, h1, h2, h3, hQ⟩
theorem lw_frame {s t : State} {o : Outcome} {args : Array Value} (h : State.butDraws s t lw_cs (fun t1 => Framed s o t1 [] 658678 7125435)) :
    State.butDraws s t [Jvm.Choice.named "NaN.bits"] (fun t1 => Framed s o t1 (fieldLocs frame_1_writes args s ++ arrayLocs frame_1_arrays args s ++ staticLocs frame_1_statics s) 658678 7125435) := h
theorem lw_limb (L : Cond) (hL : ∀ (args : Array Value) (s t : State), L.after args s (.returned (some (.int 1))) t = true) :
    ArmFor flags0 classFile x code maxLocals ret World_1 tables_1 room_1 Calls_1 rest_1 Pre_1
      (fun tb e a s o t => postC L tb e a s o t ∧ State.butDraws s t [Jvm.Choice.named "NaN.bits"] (fun t1 => Framed s o t1 (fieldLocs frame_1_writes a s ++ arrayLocs frame_1_arrays a s ++ staticLocs frame_1_statics s) 658678 7125435)) := by
  intro l hflags _ _ p e ha hc hk s m args below hf hfit hheap happ hpre
  obtain ⟨k, o, h1, h2, h3, rfl, hF⟩ := lw_comes l hflags p e ha hc hk s m args below hf hfit hheap happ hpre
  exact ⟨k, _, h1, h2, h3, hL args s _, lw_frame hF⟩
theorem i_vc : Claimed_1_1 ∧ Claimed_1_2 := ⟨lw_limb limb_1_1 (fun args s t => by simp [limb_1_1, Cond.after, Cond.holds, Cond.value]), lw_limb limb_1_2 (fun args s t => Cond.after_iff.mpr (by
  first | (rw [show limb_1_2 = Cond.eq .result (.int 1) from rfl, Cond.eq_ints (x := 1) (y := 1) rfl rfl]; simp; done) | (simp [limb_1_2, Cond.value, Term.eval]; done)))⟩
