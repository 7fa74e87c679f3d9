/-! the law: one round, its loop -/
theorem and31 (v : Int32) : ∃ k : Nat, k < 32 ∧ v &&& nI 31 = nI k := by
  refine ⟨(v &&& nI 31).toBitVec.toNat, ?_, ?_⟩
  · rw [Int32.toBitVec_and, BitVec.toNat_and]
    have e : (nI 31).toBitVec.toNat = 31 := by decide
    rw [e]
    exact Nat.lt_succ_of_le Nat.and_le_right
  · apply Int32.toBitVec_inj.mp
    apply BitVec.eq_of_toNat_eq
    show _ = (BitVec.ofNat 32 (v &&& nI 31).toBitVec.toNat).toNat
    rw [BitVec.toNat_ofNat, Nat.mod_eq_of_lt (v &&& nI 31).toBitVec.isLt]
theorem cmp4 {L i : Nat} (hL : L ≤ 2048) (hi : i < 2 ^ 31) (h : ¬ nI L - nI 4 < nI i) : i + 4 ≤ L := by
  have e : (nI L - nI 4).toInt = (L : Int) - 4 := by
    rw [Int32.toInt_sub, nI_toInt (by omega), nI_toInt (by decide)]
    exact Int.bmod_eq_of_le (by omega) (by omega)
  rw [Int32.lt_iff_toInt_lt, e, nI_toInt hi] at h
  omega
set_option maxHeartbeats 1000000 in
set_option maxRecDepth 100000 in
theorem law_round (lau : Launch) (G : GT) {p : Program} {e : Env} {s : State} {m : MethodId} {args : Array Value} {below : List Frame} {meth : Method} {c : Code} {A : Nat → Prop} {Q : State → Prop} (F : FX p room_1 s m args c code RL 9 2000 G A) (hSF : SF s) (hSH : SH A s s.heap) (hNC : NC s) (hst : lau.stackTraces = false) {b L : Nat} {xs : Nat → Int32} (hX : va_X b L xs s s.heap) (hbl : b < s.heap.size) (hbA : ¬ A b) (hL : L ≤ 2048) (ad : Nat → Nat) (ao : Nat) (am : Nat → Nat) (T : Nat → Int32) (n mo ver : Nat) (S : Nat → Int32) (h : Nat) (P : PT) (Tr : TT) (Rg : RT) (co : Nat → Int32) (len : Nat) (Rd : DT) (O : Nat → Int64) (Tw i_ : Nat) (ft : Bool) (vl : Nat) (td : Nat → Int32) (tn : Nat) (ke sp Lo Wi : Nat → Int32) {K : Nat} (hK : 4 * K + 4 ≤ L) (I : LIV K T n mo ver S h P Tr Rg co len Rd) (hnx : NX lau p e s m args below meth c G A Q ad ao am b K) : V p lau e room_1 s m args below meth c 9 G A Q (wW ad ao am G (T, n, mo, ver) (S, h) P Tr Rg (co, len) Rd O (snp T n mo) (S, h) (co, len) Tw (i_, ft, vl, td, tn) (ke, sp) Lo Wi) (30 + K) (10000 + 6 * K) 32 (lwl ad ao am b (4 * K)) [] := by
  have hkk : K < 512 := by omega
  refine v_aload_n F dL_law_32 0 rfl rfl ?_
  refine v_iload F dL_law_33 rfl ?_
  refine v_sld F hX hbl hbA (4 * K) rfl (by omega) (by omega) dL_law_35 ?_
  refine v_bipush (v := nI 31) F dL_law_36 (by decide) ?_
  refine v_iand F dL_law_38 ?_
  obtain ⟨k, hk, ek⟩ := and31 (xs (4 * K))
  refine v_topi (nI k) ek ?_
  rcases (show k = 0 ∨ k = 1 ∨ k = 2 ∨ k = 3 ∨ k = 4 ∨ k = 5 ∨ k = 6 ∨ k = 7 ∨ k = 8 ∨ k = 9 ∨ k = 10 ∨ k = 11 ∨ k = 12 ∨ k = 13 ∨ k = 14 ∨ k = 15 ∨ k = 16 ∨ k = 17 ∨ k = 18 ∨ k = 19 ∨ k = 20 ∨ k = 21 ∨ k = 22 ∨ k = 23 ∨ k = 24 ∨ k = 25 ∨ k = 26 ∨ k = 27 ∨ 28 ≤ k by omega) with rfl | rfl | rfl | rfl | rfl | rfl | rfl | rfl | rfl | rfl | rfl | rfl | rfl | rfl | rfl | rfl | rfl | rfl | rfl | rfl | rfl | rfl | rfl | rfl | rfl | rfl | rfl | rfl | hk2
  · exact v_tableIn F 164 dL_law_39 (by decide) (by decide) rfl (by decide) (lc_0 lau G F hSF hSH hNC hst hX hbl hbA hL ad ao am T n mo ver S h P Tr Rg co len Rd O Tw i_ ft vl td tn ke sp Lo Wi hK I hnx)
  · exact v_tableIn F 232 dL_law_39 (by decide) (by decide) rfl (by decide) (lc_1 lau G F hSF hSH hNC hst hX hbl hbA hL ad ao am T n mo ver S h P Tr Rg co len Rd O Tw i_ ft vl td tn ke sp Lo Wi hK I hnx)
  · exact v_tableIn F 312 dL_law_39 (by decide) (by decide) rfl (by decide) (lc_2 lau G F hSF hSH hNC hst hX hbl hbA hL ad ao am T n mo ver S h P Tr Rg co len Rd O Tw i_ ft vl td tn ke sp Lo Wi hK I hnx)
  · exact v_tableIn F 392 dL_law_39 (by decide) (by decide) rfl (by decide) (lc_3 lau G F hSF hSH hNC hst hX hbl hbA hL ad ao am T n mo ver S h P Tr Rg co len Rd O Tw i_ ft vl td tn ke sp Lo Wi hK I hnx)
  · exact v_tableIn F 460 dL_law_39 (by decide) (by decide) rfl (by decide) (lc_4 lau G F hSF hSH hNC hst hX hbl hbA hL ad ao am T n mo ver S h P Tr Rg co len Rd O Tw i_ ft vl td tn ke sp Lo Wi hK I hnx)
  · exact v_tableIn F 540 dL_law_39 (by decide) (by decide) rfl (by decide) (lc_5 lau G F hSF hSH hNC hst hX hbl hbA hL ad ao am T n mo ver S h P Tr Rg co len Rd O Tw i_ ft vl td tn ke sp Lo Wi hK I hnx)
  · exact v_tableIn F 596 dL_law_39 (by decide) (by decide) rfl (by decide) (lc_6 lau G F hSF hSH hNC hst hX hbl hbA hL ad ao am T n mo ver S h P Tr Rg co len Rd O Tw i_ ft vl td tn ke sp Lo Wi hK I hnx)
  · exact v_tableIn F 609 dL_law_39 (by decide) (by decide) rfl (by decide) (lc_7 lau G F hSF hSH hNC hst hX hbl hbA hL ad ao am T n mo ver S h P Tr Rg co len Rd O Tw i_ ft vl td tn ke sp Lo Wi hK I hnx)
  · exact v_tableIn F 665 dL_law_39 (by decide) (by decide) rfl (by decide) (lc_8 lau G F hSF hSH hNC hst hX hbl hbA hL ad ao am T n mo ver S h P Tr Rg co len Rd O Tw i_ ft vl td tn ke sp Lo Wi hK I hnx)
  · exact v_tableIn F 721 dL_law_39 (by decide) (by decide) rfl (by decide) (lc_9 lau G F hSF hSH hNC hst hX hbl hbA hL ad ao am T n mo ver S h P Tr Rg co len Rd O Tw i_ ft vl td tn ke sp Lo Wi hK I hnx)
  · exact v_tableIn F 734 dL_law_39 (by decide) (by decide) rfl (by decide) (lc_10 lau G F hSF hSH hNC hst hX hbl hbA hL ad ao am T n mo ver S h P Tr Rg co len Rd O Tw i_ ft vl td tn ke sp Lo Wi hK I hnx)
  · exact v_tableIn F 747 dL_law_39 (by decide) (by decide) rfl (by decide) (lc_11 lau G F hSF hSH hNC hst hX hbl hbA hL ad ao am T n mo ver S h P Tr Rg co len Rd O Tw i_ ft vl td tn ke sp Lo Wi hK I hnx)
  · exact v_tableIn F 791 dL_law_39 (by decide) (by decide) rfl (by decide) (lc_12 lau G F hSF hSH hNC hst hX hbl hbA hL ad ao am T n mo ver S h P Tr Rg co len Rd O Tw i_ ft vl td tn ke sp Lo Wi hK I hnx)
  · exact v_tableIn F 835 dL_law_39 (by decide) (by decide) rfl (by decide) (lc_13 lau G F hSF hSH hNC hst hX hbl hbA hL ad ao am T n mo ver S h P Tr Rg co len Rd O Tw i_ ft vl td tn ke sp Lo Wi hK I hnx)
  · exact v_tableIn F 903 dL_law_39 (by decide) (by decide) rfl (by decide) (lc_14 lau G F hSF hSH hNC hst hX hbl hbA hL ad ao am T n mo ver S h P Tr Rg co len Rd O Tw i_ ft vl td tn ke sp Lo Wi hK I hnx)
  · exact v_tableIn F 971 dL_law_39 (by decide) (by decide) rfl (by decide) (lc_15 lau G F hSF hSH hNC hst hX hbl hbA hL ad ao am T n mo ver S h P Tr Rg co len Rd O Tw i_ ft vl td tn ke sp Lo Wi hK I hnx)
  · exact v_tableIn F 1027 dL_law_39 (by decide) (by decide) rfl (by decide) (lc_16 lau G F hSF hSH hNC hst hX hbl hbA hL ad ao am T n mo ver S h P Tr Rg co len Rd O Tw i_ ft vl td tn ke sp Lo Wi hK I hnx)
  · exact v_tableIn F 1095 dL_law_39 (by decide) (by decide) rfl (by decide) (lc_17 lau G F hSF hSH hNC hst hX hbl hbA hL ad ao am T n mo ver S h P Tr Rg co len Rd O Tw i_ ft vl td tn ke sp Lo Wi hK I hnx)
  · exact v_tableIn F 1163 dL_law_39 (by decide) (by decide) rfl (by decide) (lc_18 lau G F hSF hSH hNC hst hX hbl hbA hL ad ao am T n mo ver S h P Tr Rg co len Rd O Tw i_ ft vl td tn ke sp Lo Wi hK I hnx)
  · exact v_tableIn F 1231 dL_law_39 (by decide) (by decide) rfl (by decide) (lc_19 lau G F hSF hSH hNC hst hX hbl hbA hL ad ao am T n mo ver S h P Tr Rg co len Rd O Tw i_ ft vl td tn ke sp Lo Wi hK I hnx)
  · exact v_tableIn F 1299 dL_law_39 (by decide) (by decide) rfl (by decide) (lc_20 lau G F hSF hSH hNC hst hX hbl hbA hL ad ao am T n mo ver S h P Tr Rg co len Rd O Tw i_ ft vl td tn ke sp Lo Wi hK I hnx)
  · exact v_tableIn F 1355 dL_law_39 (by decide) (by decide) rfl (by decide) (lc_21 lau G F hSF hSH hNC hst hX hbl hbA hL ad ao am T n mo ver S h P Tr Rg co len Rd O Tw i_ ft vl td tn ke sp Lo Wi hK I hnx)
  · exact v_tableIn F 1423 dL_law_39 (by decide) (by decide) rfl (by decide) (lc_22 lau G F hSF hSH hNC hst hX hbl hbA hL ad ao am T n mo ver S h P Tr Rg co len Rd O Tw i_ ft vl td tn ke sp Lo Wi hK I hnx)
  · exact v_tableIn F 1479 dL_law_39 (by decide) (by decide) rfl (by decide) (lc_23 lau G F hSF hSH hNC hst hX hbl hbA hL ad ao am T n mo ver S h P Tr Rg co len Rd O Tw i_ ft vl td tn ke sp Lo Wi hK I hnx)
  · exact v_tableIn F 1535 dL_law_39 (by decide) (by decide) rfl (by decide) (lc_24 lau G F hSF hSH hNC hst hX hbl hbA hL ad ao am T n mo ver S h P Tr Rg co len Rd O Tw i_ ft vl td tn ke sp Lo Wi hK I hnx)
  · exact v_tableIn F 1591 dL_law_39 (by decide) (by decide) rfl (by decide) (lc_25 lau G F hSF hSH hNC hst hX hbl hbA hL ad ao am T n mo ver S h P Tr Rg co len Rd O Tw i_ ft vl td tn ke sp Lo Wi hK I hnx)
  · exact v_tableIn F 1659 dL_law_39 (by decide) (by decide) rfl (by decide) (lc_26 lau G F hSF hSH hNC hst hX hbl hbA hL ad ao am T n mo ver S h P Tr Rg co len Rd O Tw i_ ft vl td tn ke sp Lo Wi hK I hnx)
  · exact v_tableIn F 1700 dL_law_39 (by decide) (by decide) rfl (by decide) (lc_27 lau G F hSF hSH hNC hst hX hbl hbA hL ad ao am T n mo ver S h P Tr Rg co len Rd O Tw i_ ft vl td tn ke sp Lo Wi hK I hnx)
  · refine v_tableOut F 1714 dL_law_39 (Or.inr (by rw [nI_toInt (by omega)]; omega)) (by decide) ?_
    refine v_widen (k' := 30 + (K + 1)) (n' := 10000 + 6 * (K + 1)) (by omega) (by omega) ?_
    exact hnx _ _ _ _ _ _ _ _ _ _ _ _ _ _ _ _ ⟨_, _, _, _, _, _, _, _, rfl, rfl, rfl, rfl, rfl, rfl, I.same hkk⟩
set_option maxHeartbeats 1000000 in
set_option maxRecDepth 100000 in
theorem law_loop (lau : Launch) (G : GT) {p : Program} {e : Env} {s : State} {m : MethodId} {args : Array Value} {below : List Frame} {meth : Method} {c : Code} {A : Nat → Prop} {Q : State → Prop} (F : FX p room_1 s m args c code RL 9 2000 G A) (hSF : SF s) (hSH : SH A s s.heap) (hNC : NC s) (hst : lau.stackTraces = false) {b L : Nat} {xs : Nat → Int32} (hX : va_X b L xs s s.heap) (hbl : b < s.heap.size) (hbA : ¬ A b) (hL : L ≤ 2048) (ad : Nat → Nat) (ao : Nat) (am : Nat → Nat)
    (hend : ∀ (w : va_W) (kc ks : Nat) (lv : List (Nat × Value)), kc ≤ 601024 → ks ≤ 7293034 → V p lau e room_1 s m args below meth c 9 G A Q w kc ks 1721 lv [.int 1]) :
    ∀ (f K : Nat) (L1 : LT) (H1 : HT) (P1 : PT) (Tr1 : TT) (Rg1 : RT) (X1 : XT) (D1 : DT) (O1 : Nat → Int64) (N1 : Nat → Int32) (H2 : HT) (X2 : XT) (Tw1 : Nat) (Q1 : QT) (K1 : KS) (Lo1 Wi1 : Nat → Int32), 513 - K < f → LR K L1 H1 P1 Tr1 Rg1 X1 D1 N1 H2 X2 →
      V p lau e room_1 s m args below meth c 9 G A Q (wW ad ao am G L1 H1 P1 Tr1 Rg1 X1 D1 O1 N1 H2 X2 Tw1 Q1 K1 Lo1 Wi1) (30 + K) (10000 + 6 * K) 23 (lwl ad ao am b (4 * K)) [] := by
  intro f
  induction f with
  | zero => exact fun K _ _ _ _ _ _ _ _ _ _ _ _ _ _ _ _ hf _ => absurd hf (Nat.not_lt_zero _)
  | succ f ih =>
    intro K L1 H1 P1 Tr1 Rg1 X1 D1 O1 N1 H2 X2 Tw1 Q1 K1 Lo1 Wi1 hf hLR
    obtain ⟨T, n, mo, ver, S, h, co, len, e1, e2, e3, e4, e5, e6, I⟩ := hLR
    subst e1; subst e2; subst e3; subst e4; subst e5; subst e6
    obtain ⟨i_, ft, vl, td, tn⟩ := Q1
    obtain ⟨ke, sp⟩ := K1
    have hK9 : K ≤ 512 := I.2.2.2.2.2.2.2.2.2
    refine v_iload F dL_law_23 rfl ?_
    refine v_aload_n F dL_law_25 0 rfl rfl ?_
    refine v_slen F hX hbl hbA dL_law_26 ?_
    refine v_iconst (v := nI 4) F dL_law_27 (by decide) ?_
    refine v_isub F dL_law_28 ?_
    refine v_icmp_gt F 1720 dL_law_29 (by decide) (fun _ => ?_) (fun hc => ?_)
    · refine v_iconst (v := 1) F dL_law_1720 (by decide) ?_
      exact hend _ _ _ _ (by omega) (by omega)
    · have hK := cmp4 hL (by omega) hc
      refine law_round lau G F hSF hSH hNC hst hX hbl hbA hL ad ao am T n mo ver S h P1 Tr1 Rg1 co len D1 O1 Tw1 i_ ft vl td tn ke sp Lo1 Wi1 hK I ?_
      intro L3 H3 P3 Tr3 Rg3 X3 D3 O3 N3 H4 X4 Tw3 Q3 K3 Lo3 Wi3 hLR3
      refine v_iinc (lv' := lwl ad ao am b (4 * K + 4)) F (nI (4 * K + 4)) dL_law_1714 rfl (nI_add (4 * K) 4) (by decide) rfl ?_
      refine v_goto F 23 dL_law_1717 (by decide) ?_
      exact ih (K + 1) L3 H3 P3 Tr3 Rg3 X3 D3 O3 N3 H4 X4 Tw3 Q3 K3 Lo3 Wi3 (by omega) hLR3
/-! the start -/
theorem BW_tbl : ∀ w ∈ BW, w ∈ lw_tbl := by decide +kernel
theorem STRS_tbl : ∀ q ∈ STRS, Cond.stringRef RX7 q.1 q.2 ∈ lw_tbl := by decide +kernel
theorem NMW_tbl : ∀ w ∈ NMW, w ∈ lw_tbl := by decide +kernel
theorem sf_start {s : State} {args : Array Value} {cur : ClassId} (hts : ∀ w ∈ lw_tbl, w.before args s = true) (hcur : s.vm.findClass RX7 = some cur) : SF s := by
  refine ⟨fun w hw => va_Nw.of (BW_ot w hw) (hts w (BW_tbl w hw)), fun q hq => ?_⟩
  have h1 := hts _ (STRS_tbl q hq)
  obtain ⟨k, cf, i, a, -, -, -, -, -, hev⟩ := Cond.stringRef_spec hcur h1
  exact ⟨a, vk_R.of h1 hev⟩
theorem nm_start {s : State} {args : Array Value} (hts : ∀ w ∈ lw_tbl, w.before args s = true) : NM s := fun w hw => va_Nw.of (NM_ot w hw) (hts w (NMW_tbl w hw))
theorem nc_start {s : State} {args : Array Value} (h : (Jvm.Cond.and given_1 narrow_1).before args s = true) : NC s := by
  have hs := flat_of_before _ h
  intro q hq
  simp only [NCP, List.mem_cons, List.not_mem_nil, or_false] at hq
  rcases hq with rfl | rfl | rfl
  · exact va_Nc.of (hs (Cond.not (.castable sISE sIAE)) (by decide +kernel))
  · exact va_Nc.of (hs (Cond.not (.castable sIAE sIOB)) (by decide +kernel))
  · exact va_Nc.of (hs (Cond.not (.castable sISE sIOB)) (by decide +kernel))
theorem sh_start {s : State} {args : Array Value} (hts : ∀ w ∈ lw_tbl, w.before args s = true) (h : (Jvm.Cond.and given_1 narrow_1).before args s = true) : SH (fun q => s.heap.size ≤ q) s s.heap := by
  have hs := flat_of_before _ h
  exact ⟨vx_Zqof (hts (Cond.laysStatic Bundle.tN "UNASSIGNED_STACK" Bundle.steD) (by decide +kernel)) (hts (Cond.initialized Bundle.tN) (by decide +kernel)) (hs (Cond.isRef (.static Bundle.tN "UNASSIGNED_STACK" Bundle.steD)) (by decide +kernel)) (fun a ha => Nat.not_le.mpr ha),
    vx_Zqof (hts (Cond.laysStatic Bundle.tN "SUPPRESSED_SENTINEL" Bundle.listD) (by decide +kernel)) (hts (Cond.initialized Bundle.tN) (by decide +kernel)) (hs (Cond.isRef (.static Bundle.tN "SUPPRESSED_SENTINEL" Bundle.listD)) (by decide +kernel)) (fun a ha => Nat.not_le.mpr ha)⟩
theorem arr_start {s : State} {args : Array Value} {ty : FieldType} (h : (Cond.arrayClass ty).before args s = true) (hv : ∀ cA, s.vm.findClass ("[" ++ ty.toString) = some cA → va_RA s cA ty) : ∃ cA, ArrOfT s cA ty ∧ va_RA s cA ty := by
  obtain ⟨c, k, comp, h1, h2, h3⟩ := Cond.arrayClass_spec h
  exact ⟨c, fun n z => ⟨fun k h => (by cases h), k, h2, comp, h3⟩, hv c h1⟩
theorem k_start {s : State} {args : Array Value} (hgw : ∀ w ∈ GW, w.before args s = true) : ∃ G : GT, va_K G.1 vwCl (TYS G) s := by
  obtain ⟨c0, i0, k0⟩ := u_known (C := RX0) (T := TX0) (N := 2) (n := 2) hgw inlX0 (hgw _ wN_RX0)
  obtain ⟨c1, i1, k1⟩ := u_known (C := RX1) (T := TX1) (N := 4) (n := 4) hgw inlX1 (hgw _ wN_RX1)
  obtain ⟨c2, i2, k2⟩ := u_known (C := RX2) (T := TX2) (N := 5) (n := 5) hgw inlX2 (hgw _ wN_RX2)
  obtain ⟨c3, i3, k3⟩ := u_known (C := RX3) (T := TX3) (N := 6) (n := 6) hgw inlX3 (hgw _ wN_RX3)
  obtain ⟨c4, i4, k4⟩ := u_known (C := RX4) (T := TX4) (N := 3) (n := 3) hgw inlX4 (hgw _ wN_RX4)
  obtain ⟨c5, i5, k5⟩ := u_known (C := RX5) (T := TX5) (N := 3) (n := 3) hgw inlX5 (hgw _ wN_RX5)
  obtain ⟨c6, i6, k6⟩ := u_known (C := RX6) (T := TX6) (N := 6) (n := 6) hgw inlX6 (hgw _ wN_RX6)
  obtain ⟨c7, i7, k7⟩ := u_known (C := RX7) (T := TX7) (N := 6) (n := 6) hgw inlX7 (hgw _ wN_RX7)
  obtain ⟨c8, i8, k8⟩ := u_known (C := RX8) (T := TX8) (N := 15) (n := 15) hgw inlX8 (hgw _ wN_RX8)
  obtain ⟨a0, a1, a2⟩ := arr_start (hgw _ wA_int) (fun _ h => h)
  obtain ⟨b0, b1, b2⟩ := arr_start (hgw _ wA_boolean) (fun _ h => h)
  obtain ⟨d0, d1, d2⟩ := arr_start (hgw _ wA_long) (fun _ h => h)
  refine ⟨((fun k => [c0, c1, c2, c3, c4, c5, c6, c7, c8].getD k c0, fun k => ([i0, i1, i2, i3, i4, i5, i6, i7, i8] : List (Nat → Nat)).getD k i0), a0, b0, d0), fun k q hq => ?_, fun k q hq => ?_⟩
  · match k, hq with
    | 0, hq => cases hq; exact k0
    | 1, hq => cases hq; exact k1
    | 2, hq => cases hq; exact k2
    | 3, hq => cases hq; exact k3
    | 4, hq => cases hq; exact k4
    | 5, hq => cases hq; exact k5
    | 6, hq => cases hq; exact k6
    | 7, hq => cases hq; exact k7
    | 8, hq => cases hq; exact k8
    | k + 9, hq => simp [vwCl] at hq
  · match k, hq with
    | 0, hq => cases hq; exact ⟨a1, a2⟩
    | 1, hq => cases hq; exact ⟨b1, b2⟩
    | 2, hq => cases hq; exact ⟨d1, d2⟩
    | k + 3, hq => simp at hq
