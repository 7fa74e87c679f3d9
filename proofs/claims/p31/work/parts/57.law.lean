/-! the law: its loop -/
theorem cs_RL_108 : CSS RL 108 yL_act cL_act 7 (some .int) 3 := ⟨wC_yL_act, wM_RL_108, wSt_yL_act, wI_RL, by decide +kernel, by decide⟩
theorem cs_RL_112 : CSS RL 112 yL_places cL_places 12 (some .boolean) 1 := ⟨wC_yL_places, wM_RL_112, wSt_yL_places, wI_RL, by decide +kernel, by decide⟩
theorem cs_RL_116 : CSS RL 116 yL_lines cL_lines 9 (some .boolean) 1 := ⟨wC_yL_lines, wM_RL_116, wSt_yL_lines, wI_RL, by decide +kernel, by decide⟩
set_option maxHeartbeats 1000000 in
set_option maxRecDepth 100000 in
theorem law_loop (lau : Launch) (G : GT) {p : Program} {e : Env} {s : State} {m : MethodId} {args : Array Value} {below : List Frame} {meth : Method} {c : Code} {A : Nat → Prop} {Q : State → Prop} (F : FX p room_1 s m args c code RL 7 2000 G A) (hSF : SF s) (hSH : SH A s s.heap) (hNC : NC s) (hst : lau.stackTraces = false) {b L : Nat} {xs : Nat → Int32} (hX : va_X b L xs s s.heap) (hbl : b < s.heap.size) (hbA : ¬ A b) (hL : L ≤ 260) (ad : Nat → Nat) (co : Nat → Int32) (len : Nat) (Rd : DT) (tn : Nat) (htn : tn ≤ 14)
    (hend : ∀ (w : va_W) (kc ks : Nat) (lv : List (Nat × Value)), kc ≤ 658678 → ks ≤ 7125435 → V p lau e room_1 s m args below meth c 7 G A Q w kc ks 140 lv [.int 1]) :
    ∀ (f k : Nat) (T : Nat → Int32) (n mo ver : Nat) (S : Nat → Int32) (h : Nat) (P : PT) (Tr : TT) (Rg : RT), tn - k < f → k ≤ tn → LIV k T n mo ver S h P Tr Rg co len Rd →
      V p lau e room_1 s m args below meth c 7 G A Q (wC ad G (T, n, mo, ver) (S, h) P Tr Rg (co, len) Rd) (18 + 65 * k) (1608 + 390 * k) 32 [(4, .int (nI k)), (3, .int (nI tn)), (2, .int (nI 1)), (1, .ref (ad 0)), (0, .ref b)] [] := by
  intro f
  induction f with
  | zero => exact fun k _ _ _ _ _ _ _ _ _ hf _ _ => absurd hf (Nat.not_lt_zero _)
  | succ f ih =>
    intro k T n mo ver S h P Tr Rg hf hk I
    refine v_iload F dL_law_32 rfl ?_
    refine v_iload_n F dL_law_34 3 rfl rfl ?_
    refine v_icmp_ge F 124 dL_law_35 (by decide) (fun _ => ?_) (fun hc => ?_)
    · refine v_iload_n F dL_law_124 2 rfl rfl ?_
      refine v_if_eq F 139 dL_law_125 (by decide) (fun h => absurd h (by decide)) (fun _ => ?_)
      refine v_aload_n F dL_law_128 1 rfl rfl ?_
      refine v_cSIF F cs_RL_116 dL_law_129 (m_L_lines lau G ad T n mo ver S h P Tr Rg (co, len) Rd (I).2.1 (I).1 (I).2.2.1 (I).2.2.2.2.2.2.2.1.1 (I).2.2.2.2.2.2.2.1.2.1 (I).2.2.2.2.2.2.2.1.2.2) (by decide) rfl rfl (Nat.le_of_ble_eq_true rfl) ⟨by show 18 + 65 * k ≤ 658678; omega, by show 1608 + 390 * k ≤ 7125435; omega⟩ (fun r1 u1 w1 => ?_)
      refine v_topi 1 w1.1 ?_
      refine v_if_eq F 139 dL_law_132 (by decide) (fun h => absurd h (by decide)) (fun _ => ?_)
      refine v_iconst (v := 1) F dL_law_135 (by decide) ?_
      refine v_goto F 140 dL_law_136 (by decide) ?_
      exact hend _ _ _ _ (by omega) (by omega)
    · replace hc := nGn (a := k) (b := tn) (by omega) (by omega) hc
      refine v_iload_n F dL_law_38 2 rfl rfl ?_
      refine v_if_eq F 124 dL_law_39 (by decide) (fun h => absurd h (by decide)) (fun _ => ?_)
      refine v_aload_n F dL_law_42 1 rfl rfl ?_
      refine v_bipush (v := nI 8) F dL_law_43 (by decide) ?_
      refine v_cVIF F cs_RL_15 dL_law_45 0 (ci := 7) rfl rfl (m_X7_count lau G ad T n mo ver S h P Tr Rg (co, len) Rd 8 (by decide) I.1 I.2.2.1 (I).2.2.2.2.2.2.2.1.1 (I).2.2.2.2.2.2.2.1.2.1 (I).2.2.2.2.2.2.2.1.2.2) (by decide) rfl rfl (Nat.le_of_ble_eq_true rfl) ⟨by show 18 + 65 * k ≤ 658678; omega, by show 1608 + 390 * k ≤ 7125435; omega⟩ (fun r1 u1 w1 => ?_)
      refine v_topi (nI h) (w1.1.trans rfl) ?_
      refine v_istore (lv' := [(5, .int (nI h)), (4, .int (nI k)), (3, .int (nI tn)), (2, .int (nI 1)), (1, .ref (ad 0)), (0, .ref b)]) F dL_law_48 (by decide) rfl ?_
      refine v_aload_n F dL_law_50 1 rfl rfl ?_
      refine v_aload_n F dL_law_51 0 rfl rfl ?_
      refine v_iconst (v := nI 4) F dL_law_52 (by decide) ?_
      refine v_iload F dL_law_53 rfl ?_
      refine v_imul F dL_law_55 ?_
      refine v_topi (nI (4 * k)) (pk_mul 4 k) ?_
      refine v_cZ F hSF hSH hNC hX hbl hbA cs_RL_108 dL_law_56 [0, 1, 2, 3, 4, 5, 6, 7, 8, 9, 10, 11, 12, 13, 14, 15, 16, 17] [] (wc := wC ad G (T, n, mo, ver) (S, h) u1.1 u1.2.1 u1.2.2 (co, len) Rd) (wr := []) rfl rfl rfl rfl rfl (by decide) (z_L_act lau G ad T n mo ver S h u1.1 u1.2.1 u1.2.2 co len Rd (4 * k) (by omega) (by omega) k (I.obs w1.2) (by omega) hst) (by decide) rfl rfl (Nat.le_of_ble_eq_true rfl) ⟨by show 18 + 65 * k + 1 ≤ 658678; omega, by show 1608 + 390 * k + 6 ≤ 7125435; omega⟩ (fun r2 u2 w2 => ?_)
      obtain ⟨L2, H2, P2, Tr2, Rg2⟩ := u2
      obtain ⟨⟨T2, n2, mo2, ver2, S2, h2, e1, e2, I2⟩, hr⟩ := w2
      have e1 : L2 = (T2, n2, mo2, ver2) := e1
      have e2 : H2 = (S2, h2) := e2
      subst e1; subst e2
      have I2 : LIV (k + 1) T2 n2 mo2 ver2 S2 h2 P2 Tr2 Rg2 co len Rd := I2
      have hr : r2 = -10003 → h2 = h := hr
      refine v_w (w' := wC ad G (T2, n2, mo2, ver2) (S2, h2) P2 Tr2 Rg2 (co, len) Rd) rfl ?_
      refine v_istore (lv' := [(6, .int r2), (5, .int (nI h)), (4, .int (nI k)), (3, .int (nI tn)), (2, .int (nI 1)), (1, .ref (ad 0)), (0, .ref b)]) F dL_law_59 (by decide) rfl ?_
      have J112 : ∀ (P3 : PT) (Tr3 : TT) (Rg3 : RT), LIV (k + 1) T2 n2 mo2 ver2 S2 h2 P3 Tr3 Rg3 co len Rd → V p lau e room_1 s m args below meth c 7 G A Q (wC ad G (T2, n2, mo2, ver2) (S2, h2) P3 Tr3 Rg3 (co, len) Rd) (18 + 65 * (k + 1)) (1608 + 390 * (k + 1)) 112 [(2, .int (nI 1)), (6, .int r2), (5, .int (nI h)), (4, .int (nI k)), (3, .int (nI tn)), (1, .ref (ad 0)), (0, .ref b)] [] := by
        intro P3 Tr3 Rg3 I3
        refine v_iconst (v := nI 1) F dL_law_112 (by decide) ?_
        refine v_goto F 117 dL_law_113 (by decide) ?_
        refine v_istore_n (lv' := [(2, .int (nI 1)), (6, .int r2), (5, .int (nI h)), (4, .int (nI k)), (3, .int (nI tn)), (1, .ref (ad 0)), (0, .ref b)]) F dL_law_117 2 rfl (by decide) rfl ?_
        refine v_iinc (lv' := [(4, .int (nI (k + 1))), (2, .int (nI 1)), (6, .int r2), (5, .int (nI h)), (3, .int (nI tn)), (1, .ref (ad 0)), (0, .ref b)]) F (nI (k + 1)) dL_law_118 rfl (nI_add k 1) (by decide) rfl ?_
        refine v_goto F 32 dL_law_121 (by decide) ?_
        refine v_st (w' := wC ad G (T2, n2, mo2, ver2) (S2, h2) P3 Tr3 Rg3 (co, len) Rd) (pc' := 32) (st' := []) rfl rfl rfl [0, 4, 1, 5, 6] (lv' := [(4, .int (nI (k + 1))), (3, .int (nI tn)), (2, .int (nI 1)), (1, .ref (ad 0)), (0, .ref b)]) rfl ?_
        exact ih (k + 1) T2 n2 mo2 ver2 S2 h2 P3 Tr3 Rg3 (by omega) (by omega) I3
      have J80 : ∀ (P3 : PT) (Tr3 : TT) (Rg3 : RT), LIV (k + 1) T2 n2 mo2 ver2 S2 h2 P3 Tr3 Rg3 co len Rd → V p lau e room_1 s m args below meth c 7 G A Q (wC ad G (T2, n2, mo2, ver2) (S2, h2) P3 Tr3 Rg3 (co, len) Rd) (18 + 65 * k + 1) (1608 + 390 * k + 6) 80 [(6, .int r2), (5, .int (nI h)), (4, .int (nI k)), (3, .int (nI tn)), (2, .int (nI 1)), (1, .ref (ad 0)), (0, .ref b)] [] := by
        intro P3 Tr3 Rg3 I3
        refine v_iconst (v := nI 1) F dL_law_80 (by decide) ?_
        refine v_goto F 85 dL_law_81 (by decide) ?_
        refine v_istore_n (lv' := [(2, .int (nI 1)), (6, .int r2), (5, .int (nI h)), (4, .int (nI k)), (3, .int (nI tn)), (1, .ref (ad 0)), (0, .ref b)]) F dL_law_85 2 rfl (by decide) rfl ?_
        refine v_iload_n F dL_law_86 2 rfl rfl ?_
        refine v_if_eq F 116 dL_law_87 (by decide) (fun h => absurd h (by decide)) (fun _ => ?_)
        refine v_aload_n F dL_law_90 1 rfl rfl ?_
        refine v_cZ F hSF hSH hNC hX hbl hbA cs_RL_112 dL_law_91 [0, 1, 2, 3, 4, 5, 6, 7, 8, 9, 10, 11, 12, 13, 14, 15, 16, 17] [] (wc := wC ad G (T2, n2, mo2, ver2) (S2, h2) P3 Tr3 Rg3 (co, len) Rd) (wr := []) rfl rfl rfl rfl rfl (by decide) (z_L_places lau G ad T2 n2 mo2 ver2 S2 h2 P3 Tr3 Rg3 co len Rd (I3).2.1 (I3).1 (I3).2.2.1 (I3).2.2.2.2.2.2.2.1.1 (I3).2.2.2.2.2.2.2.1.2.1 (I3).2.2.2.2.2.2.2.1.2.2 hst) (by decide) rfl rfl (Nat.le_of_ble_eq_true rfl) ⟨by show 18 + 65 * k + 1 + 64 ≤ 658678; omega, by show 1608 + 390 * k + 6 + 384 ≤ 7125435; omega⟩ (fun r4 u4 w4 => ?_)
        refine v_topi 1 w4.1 ?_
        refine v_w (w' := wC ad G (T2, n2, mo2, ver2) (S2, h2) u4.1 u4.2.1 u4.2.2 (co, len) Rd) rfl ?_
        refine v_widen (k' := 18 + 65 * (k + 1)) (n' := 1608 + 390 * (k + 1)) (by omega) (by omega) ?_
        refine v_if_eq F 116 dL_law_94 (by decide) (fun h => absurd h (by decide)) (fun _ => ?_)
        refine v_iload F dL_law_97 rfl ?_
        refine v_iconst (v := nI 3) F dL_law_99 (by decide) ?_
        refine v_irem F dL_law_100 (by decide) ?_
        refine v_iconst (v := nI 2) F dL_law_101 (by decide) ?_
        refine v_icmp_ne F 112 dL_law_102 (by decide) (fun _ => ?_) (fun _ => ?_)
        · exact J112 _ _ _ (I3.obs w4.2)
        · refine v_aload_n F dL_law_105 1 rfl rfl ?_
          refine v_cSIF F cs_RL_116 dL_law_106 (m_L_lines lau G ad T2 n2 mo2 ver2 S2 h2 u4.1 u4.2.1 u4.2.2 (co, len) Rd (I3).2.1 (I3).1 (I3).2.2.1 (I3.obs w4.2).2.2.2.2.2.2.2.1.1 (I3.obs w4.2).2.2.2.2.2.2.2.1.2.1 (I3.obs w4.2).2.2.2.2.2.2.2.1.2.2) (by decide) rfl rfl (Nat.le_of_ble_eq_true rfl) ⟨by show 18 + 65 * (k + 1) ≤ 658678; omega, by show 1608 + 390 * (k + 1) ≤ 7125435; omega⟩ (fun r5 u5 w5 => ?_)
          refine v_topi 1 w5.1 ?_
          refine v_if_eq F 116 dL_law_109 (by decide) (fun h => absurd h (by decide)) (fun _ => ?_)
          exact J112 _ _ _ (I3.obs w5.2)
      refine v_iload F dL_law_61 rfl ?_
      refine v_sipush (v := (-10003)) F dL_law_63 (by decide) ?_
      refine v_icmp_ne F 80 dL_law_66 (by decide) (fun _ => ?_) (fun heq => ?_)
      · exact J80 P2 Tr2 Rg2 I2
      · refine v_aload_n F dL_law_69 1 rfl rfl ?_
        refine v_bipush (v := nI 8) F dL_law_70 (by decide) ?_
        refine v_cVIF F cs_RL_15 dL_law_72 0 (ci := 7) rfl rfl (m_X7_count lau G ad T2 n2 mo2 ver2 S2 h2 P2 Tr2 Rg2 (co, len) Rd 8 (by decide) I2.1 I2.2.2.1 (I2).2.2.2.2.2.2.2.1.1 (I2).2.2.2.2.2.2.2.1.2.1 (I2).2.2.2.2.2.2.2.1.2.2) (by decide) rfl rfl (Nat.le_of_ble_eq_true rfl) ⟨by show 18 + 65 * k + 1 ≤ 658678; omega, by show 1608 + 390 * k + 6 ≤ 7125435; omega⟩ (fun r3 u3 w3 => ?_)
        refine v_topi (nI h) (w3.1.trans (congrArg nI (hr heq))) ?_
        refine v_iload F dL_law_75 rfl ?_
        refine v_icmp_ne F 84 dL_law_77 (by decide) (fun hq => absurd rfl hq) (fun _ => ?_)
        exact J80 _ _ _ (I2.obs w3.2)
/-! the start -/
theorem BW_tbl : ∀ w ∈ BW, w ∈ lw_tbl := by decide +kernel
theorem STRS_tbl : ∀ q ∈ STRS, Cond.stringRef RX7 q.1 q.2 ∈ lw_tbl := by decide +kernel
theorem NMW_tbl : ∀ w ∈ NMW, w ∈ lw_tbl := by decide +kernel
theorem sf_start {s : State} {args : Array Value} {cur : ClassId} (hts : ∀ w ∈ lw_tbl, w.before args s = true) (hcur : s.vm.findClass RX7 = some cur) : SF s := by
  refine ⟨fun w hw => va_Nw.of (BW_ot w hw) (hts w (BW_tbl w hw)), fun q hq => ?_⟩
  have h1 := hts _ (STRS_tbl q hq)
  obtain ⟨k, cf, i, a, -, -, -, -, -, hev⟩ := Cond.stringRef_spec hcur h1
  exact ⟨a, vk_R.of h1 hev⟩
theorem nm_start {s : State} {args : Array Value} (hts : ∀ w ∈ lw_tbl, w.before args s = true) : NM s := fun w hw => va_Nw.of (NM_ot w hw) (hts w (NMW_tbl w hw))
theorem nc_start {s : State} : NC s := fun q hq => absurd hq List.not_mem_nil
theorem sh_start {s : State} {args : Array Value} (hts : ∀ w ∈ lw_tbl, w.before args s = true) (h : (Jvm.Cond.and given_1 narrow_1).before args s = true) : SH (fun q => s.heap.size ≤ q) s s.heap := by
  have hs := flat_of_before _ h
  exact ⟨vx_Zqof (hts (Cond.laysStatic Bundle.tN "UNASSIGNED_STACK" Bundle.steD) (by decide +kernel)) (hts (Cond.initialized Bundle.tN) (by decide +kernel)) (hs (Cond.isRef (.static Bundle.tN "UNASSIGNED_STACK" Bundle.steD)) (by decide +kernel)) (fun a ha => Nat.not_le.mpr ha),
    vx_Zqof (hts (Cond.laysStatic Bundle.tN "SUPPRESSED_SENTINEL" Bundle.listD) (by decide +kernel)) (hts (Cond.initialized Bundle.tN) (by decide +kernel)) (hs (Cond.isRef (.static Bundle.tN "SUPPRESSED_SENTINEL" Bundle.listD)) (by decide +kernel)) (fun a ha => Nat.not_le.mpr ha)⟩
theorem arr_start {s : State} {args : Array Value} {ty : FieldType} (h : (Cond.arrayClass ty).before args s = true) (hv : ∀ cA, s.vm.findClass ("[" ++ ty.toString) = some cA → va_RA s cA ty) : ∃ cA, ArrOfT s cA ty ∧ va_RA s cA ty := by
  obtain ⟨c, k, comp, h1, h2, h3⟩ := Cond.arrayClass_spec h
  exact ⟨c, fun n z => ⟨fun k h => (by cases h), k, h2, comp, h3⟩, hv c h1⟩
theorem k_start {s : State} {args : Array Value} (hgw : ∀ w ∈ GW, w.before args s = true) : ∃ G : GT, va_K G.1 vwCl (TYS G) s := by
  obtain ⟨c0, i0, k0⟩ := u_known (C := RX0) (T := TX0) (N := 2) (n := 2) hgw inlX0 (hgw _ wN_RX0)
  obtain ⟨c1, i1, k1⟩ := u_known (C := RX1) (T := TX1) (N := 4) (n := 4) hgw inlX1 (hgw _ wN_RX1)
  obtain ⟨c2, i2, k2⟩ := u_known (C := RX2) (T := TX2) (N := 5) (n := 5) hgw inlX2 (hgw _ wN_RX2)
  obtain ⟨c3, i3, k3⟩ := u_known (C := RX3) (T := TX3) (N := 6) (n := 6) hgw inlX3 (hgw _ wN_RX3)
  obtain ⟨c4, i4, k4⟩ := u_known (C := RX4) (T := TX4) (N := 3) (n := 3) hgw inlX4 (hgw _ wN_RX4)
  obtain ⟨c5, i5, k5⟩ := u_known (C := RX5) (T := TX5) (N := 3) (n := 3) hgw inlX5 (hgw _ wN_RX5)
  obtain ⟨c6, i6, k6⟩ := u_known (C := RX6) (T := TX6) (N := 6) (n := 6) hgw inlX6 (hgw _ wN_RX6)
  obtain ⟨c7, i7, k7⟩ := u_known (C := RX7) (T := TX7) (N := 6) (n := 6) hgw inlX7 (hgw _ wN_RX7)
  obtain ⟨a0, a1, a2⟩ := arr_start (hgw _ wA_int) (fun _ h => h)
  refine ⟨((fun k => [c0, c1, c2, c3, c4, c5, c6, c7].getD k c0, fun k => ([i0, i1, i2, i3, i4, i5, i6, i7] : List (Nat → Nat)).getD k i0), a0, a0, a0), fun k q hq => ?_, fun k q hq => ?_⟩
  · match k, hq with
    | 0, hq => cases hq; exact k0
    | 1, hq => cases hq; exact k1
    | 2, hq => cases hq; exact k2
    | 3, hq => cases hq; exact k3
    | 4, hq => cases hq; exact k4
    | 5, hq => cases hq; exact k5
    | 6, hq => cases hq; exact k6
    | 7, hq => cases hq; exact k7
    | k + 8, hq => simp [vwCl] at hq
  · match k, hq with
    | 0, hq => cases hq; exact ⟨a1, a2⟩
    | k + 1, hq => simp at hq
