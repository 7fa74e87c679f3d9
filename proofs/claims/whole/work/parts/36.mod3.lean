set_option maxHeartbeats 400000 in
set_option maxRecDepth 100000 in
theorem m_X8_firstOf (lau : Launch) (G : GT)  (k : Nat) (hk1 : 1 ≤ k) (hk2 : k ≤ 127) : MI lau G 0 yX8_firstOf cX8_firstOf 4 (some .int) [.int (nI k)] ([]) (fun u : Unit => []) (fun r u => r = nI (gF k)) := by
  refine mi_of (by decide +kernel) (Nat.le_of_ble_eq_true rfl) ?_
  intro p e s m args below meth c A Q F hr hlk hQ
  refine v_st (w' := []) (pc' := 0) (st' := []) rfl rfl rfl [0] (lv' := [(0, .int (nI k))]) rfl ?_
  refine v_bipush (v := nI 64) F dX8_firstOf_0 (by decide) ?_
  refine v_istore_n (lv' := [(1, .int (nI 64)), (0, .int (nI k))]) F dX8_firstOf_2 1 rfl (by decide) rfl ?_
  refine v_iload_n F dX8_firstOf_3 0 rfl rfl ?_
  refine v_istore_n (lv' := [(2, .int (nI k)), (1, .int (nI 64)), (0, .int (nI k))]) F dX8_firstOf_4 2 rfl (by decide) rfl ?_
  have L5 : ∀ (k_ : Nat) (i : Nat) (lf : Nat) (wd : Nat), lf < k_ → (lf = k / 2 ^ i) → (wd = 64 / 2 ^ i) → (i ≤ Nat.log2 k) → (lf ≤ k) → (wd ≤ 64) → V p lau e (RM 0) s m args below meth c 4 G A Q ([]) 0 0 5 [(2, .int (nI lf)), (1, .int (nI wd)), (0, .int (nI k))] [] := by
    intro k_
    induction k_ with
    | zero => exact fun i lf wd hk_ hlf hwd hil hlb hwb => absurd hk_ (Nat.not_lt_zero _)
    | succ k_ ih5 =>
      intro i lf wd hk_5 hlf hwd hil hlb hwb
      refine v_iload_n F dX8_firstOf_5 2 rfl rfl ?_
      refine v_iconst (v := nI 1) F dX8_firstOf_6 (by decide) ?_
      refine v_icmp_le F 21 dX8_firstOf_7 (by decide) (fun c1 => ?_) (fun c1 => ?_)
      · replace c1 := nK (a := lf) (b := 1) (by omega) (by decide) c1
        have hw := lo_end hk1 hlf hwd hil c1
        subst hw
        have hwa := wd_all k (by omega) hk1
        refine v_bipush (v := nI 64) F dX8_firstOf_21 (by decide) ?_
        refine v_iload_n F dX8_firstOf_23 1 rfl rfl ?_
        refine v_idiv F dX8_firstOf_24 (nI_nz (by omega) (by omega)) ?_
        refine v_topi (nI (64 / (wdO k))) (pk_div (by omega) (by omega) (by omega)) ?_
        refine v_istore_n (lv' := [(3, .int (nI (64 / (wdO k)))), (2, .int (nI lf)), (1, .int (nI (wdO k))), (0, .int (nI k))]) F dX8_firstOf_25 3 rfl (by decide) rfl ?_
        refine v_iload_n F dX8_firstOf_26 0 rfl rfl ?_
        refine v_iload_n F dX8_firstOf_27 3 rfl rfl ?_
        refine v_isub F dX8_firstOf_28 ?_
        refine v_topi (nI (k - 64 / wdO k)) (pk_sub hwa.2.2.2.2.1) ?_
        refine v_iload_n F dX8_firstOf_29 1 rfl rfl ?_
        refine v_imul F dX8_firstOf_30 ?_
        refine v_topi (nI ((k - 64 / wdO k) * (wdO k))) (pk_mul (k - 64 / wdO k) (wdO k)) ?_
        exact v_iret F hr hlk hQ dX8_firstOf_31 (()) rfl (by exact congrArg nI hwa.2.2.2.2.2)
      · replace c1 := nKn (a := lf) (b := 1) (by omega) (by decide) c1
        refine v_iload_n F dX8_firstOf_10 2 rfl rfl ?_
        refine v_iconst (v := nI 2) F dX8_firstOf_11 (by decide) ?_
        refine v_idiv F dX8_firstOf_12 (by decide) ?_
        refine v_topi (nI (lf / 2)) (pk_div (by omega) (by decide) (by decide)) ?_
        refine v_istore_n (lv' := [(2, .int (nI (lf / 2))), (1, .int (nI wd)), (0, .int (nI k))]) F dX8_firstOf_13 2 rfl (by decide) rfl ?_
        refine v_iload_n F dX8_firstOf_14 1 rfl rfl ?_
        refine v_iconst (v := nI 2) F dX8_firstOf_15 (by decide) ?_
        refine v_idiv F dX8_firstOf_16 (by decide) ?_
        refine v_topi (nI (wd / 2)) (pk_div (by omega) (by decide) (by decide)) ?_
        refine v_istore_n (lv' := [(1, .int (nI (wd / 2))), (2, .int (nI (lf / 2))), (0, .int (nI k))]) F dX8_firstOf_17 1 rfl (by decide) rfl ?_
        refine v_goto F 5 dX8_firstOf_18 (by decide) ?_
        refine v_st (w' := []) (pc' := 5) (st' := []) rfl rfl rfl [1, 0, 2] (lv' := [(2, .int (nI (lf / 2))), (1, .int (nI (wd / 2))), (0, .int (nI k))]) rfl ?_
        exact ih5 (i + 1) (lf / 2) (wd / 2) (by omega) (lo_d hlf) (lo_d hwd) (lo_nx hk1 hlf hil (by assumption)) (by omega) (by omega)
  refine v_st (w' := []) (pc' := 5) (st' := []) rfl rfl rfl [0, 1, 2] (lv' := [(2, .int (nI k)), (1, .int (nI 64)), (0, .int (nI k))]) rfl ?_
  exact L5 _ 0 k 64 (Nat.lt_succ_self _) (by simp) (by simp) (Nat.zero_le _) (by omega) (by omega)
set_option maxHeartbeats 400000 in
set_option maxRecDepth 100000 in
theorem m_X8_widthOf (lau : Launch) (G : GT)  (k : Nat) (hk1 : 1 ≤ k) (hk2 : k ≤ 127) : MI lau G 0 yX8_widthOf cX8_widthOf 3 (some .int) [.int (nI k)] ([]) (fun u : Unit => []) (fun r u => r = nI (wdO k)) := by
  refine mi_of (by decide +kernel) (Nat.le_of_ble_eq_true rfl) ?_
  intro p e s m args below meth c A Q F hr hlk hQ
  refine v_st (w' := []) (pc' := 0) (st' := []) rfl rfl rfl [0] (lv' := [(0, .int (nI k))]) rfl ?_
  refine v_bipush (v := nI 64) F dX8_widthOf_0 (by decide) ?_
  refine v_istore_n (lv' := [(1, .int (nI 64)), (0, .int (nI k))]) F dX8_widthOf_2 1 rfl (by decide) rfl ?_
  refine v_iload_n F dX8_widthOf_3 0 rfl rfl ?_
  refine v_istore_n (lv' := [(2, .int (nI k)), (1, .int (nI 64)), (0, .int (nI k))]) F dX8_widthOf_4 2 rfl (by decide) rfl ?_
  have L5 : ∀ (k_ : Nat) (i : Nat) (lf : Nat) (wd : Nat), lf < k_ → (lf = k / 2 ^ i) → (wd = 64 / 2 ^ i) → (i ≤ Nat.log2 k) → (lf ≤ k) → (wd ≤ 64) → V p lau e (RM 0) s m args below meth c 3 G A Q ([]) 0 0 5 [(2, .int (nI lf)), (1, .int (nI wd)), (0, .int (nI k))] [] := by
    intro k_
    induction k_ with
    | zero => exact fun i lf wd hk_ hlf hwd hil hlb hwb => absurd hk_ (Nat.not_lt_zero _)
    | succ k_ ih5 =>
      intro i lf wd hk_5 hlf hwd hil hlb hwb
      refine v_iload_n F dX8_widthOf_5 2 rfl rfl ?_
      refine v_iconst (v := nI 1) F dX8_widthOf_6 (by decide) ?_
      refine v_icmp_le F 21 dX8_widthOf_7 (by decide) (fun c1 => ?_) (fun c1 => ?_)
      · replace c1 := nK (a := lf) (b := 1) (by omega) (by decide) c1
        refine v_iload_n F dX8_widthOf_21 1 rfl rfl ?_
        exact v_iret F hr hlk hQ dX8_widthOf_22 (()) rfl (by rw [lo_end hk1 hlf hwd hil (by assumption)])
      · replace c1 := nKn (a := lf) (b := 1) (by omega) (by decide) c1
        refine v_iload_n F dX8_widthOf_10 1 rfl rfl ?_
        refine v_iconst (v := nI 2) F dX8_widthOf_11 (by decide) ?_
        refine v_idiv F dX8_widthOf_12 (by decide) ?_
        refine v_topi (nI (wd / 2)) (pk_div (by omega) (by decide) (by decide)) ?_
        refine v_istore_n (lv' := [(1, .int (nI (wd / 2))), (2, .int (nI lf)), (0, .int (nI k))]) F dX8_widthOf_13 1 rfl (by decide) rfl ?_
        refine v_iload_n F dX8_widthOf_14 2 rfl rfl ?_
        refine v_iconst (v := nI 2) F dX8_widthOf_15 (by decide) ?_
        refine v_idiv F dX8_widthOf_16 (by decide) ?_
        refine v_topi (nI (lf / 2)) (pk_div (by omega) (by decide) (by decide)) ?_
        refine v_istore_n (lv' := [(2, .int (nI (lf / 2))), (1, .int (nI (wd / 2))), (0, .int (nI k))]) F dX8_widthOf_17 2 rfl (by decide) rfl ?_
        refine v_goto F 5 dX8_widthOf_18 (by decide) ?_
        refine v_st (w' := []) (pc' := 5) (st' := []) rfl rfl rfl [0, 1, 2] (lv' := [(2, .int (nI (lf / 2))), (1, .int (nI (wd / 2))), (0, .int (nI k))]) rfl ?_
        exact ih5 (i + 1) (lf / 2) (wd / 2) (by omega) (lo_d hlf) (lo_d hwd) (lo_nx hk1 hlf hil (by assumption)) (by omega) (by omega)
  refine v_st (w' := []) (pc' := 5) (st' := []) rfl rfl rfl [0, 1, 2] (lv' := [(2, .int (nI k)), (1, .int (nI 64)), (0, .int (nI k))]) rfl ?_
  exact L5 _ 0 k 64 (Nat.lt_succ_self _) (by simp) (by simp) (Nat.zero_le _) (by omega) (by omega)
theorem cs_RX8_99 : CSS RX8 99 yX8_firstOf cX8_firstOf 4 (some .int) 1 := ⟨wC_yX8_firstOf, wM_RX8_99, wSt_yX8_firstOf, wI_RX8, by decide +kernel, by decide⟩
theorem cs_RX8_102 : CSS RX8 102 yX8_widthOf cX8_widthOf 3 (some .int) 1 := ⟨wC_yX8_widthOf, wM_RX8_102, wSt_yX8_widthOf, wI_RX8, by decide +kernel, by decide⟩
set_option maxHeartbeats 400000 in
set_option maxRecDepth 100000 in
theorem m_X8_lastOf (lau : Launch) (G : GT)  (k : Nat) (hk1 : 1 ≤ k) (hk2 : k ≤ 127) : MI lau G 1 yX8_lastOf cX8_lastOf 1 (some .int) [.int (nI k)] ([]) (fun u : Unit => []) (fun r u => r = nI (gL k)) := by
  have hwa := wd_all k (by omega) hk1
  refine mi_of (by decide +kernel) (Nat.le_of_ble_eq_true rfl) ?_
  intro p e s m args below meth c A Q F hr hlk hQ
  refine v_st (w' := []) (pc' := 0) (st' := []) rfl rfl rfl [0] (lv' := [(0, .int (nI k))]) rfl ?_
  refine v_iload_n F dX8_lastOf_0 0 rfl rfl ?_
  refine v_cSIE F cs_RX8_99 dX8_lastOf_1 (m_X8_firstOf lau G k (by omega) (by omega)) (by decide) rfl rfl (Nat.le_of_ble_eq_true rfl) ⟨Nat.zero_le _, Nat.zero_le _⟩ (fun r1 u2 w3 => ?_)
  subst w3
  refine v_iload_n F dX8_lastOf_4 0 rfl rfl ?_
  refine v_cSIE F cs_RX8_102 dX8_lastOf_5 (m_X8_widthOf lau G k (by omega) (by omega)) (by decide) rfl rfl (Nat.le_of_ble_eq_true rfl) ⟨Nat.zero_le _, Nat.zero_le _⟩ (fun r4 u5 w6 => ?_)
  subst w6
  refine v_iadd F dX8_lastOf_8 ?_
  refine v_topi (nI ((gF k) + (wdO k))) (nI_add (gF k) (wdO k)) ?_
  refine v_iconst (v := nI 1) F dX8_lastOf_9 (by decide) ?_
  refine v_isub F dX8_lastOf_10 ?_
  refine v_topi (nI (gF k + wdO k - 1)) (pk_sub (by omega)) ?_
  exact v_iret F hr hlk hQ dX8_lastOf_11 (()) rfl (by exact congrArg nI hwa.2.1)
theorem cs_RX8_105 : CSS RX8 105 yX8_lastOf cX8_lastOf 1 (some .int) 1 := ⟨wC_yX8_lastOf, wM_RX8_105, wSt_yX8_lastOf, wI_RX8, by decide +kernel, by decide⟩
set_option maxHeartbeats 400000 in
set_option maxRecDepth 100000 in
theorem m_X8_middleOf (lau : Launch) (G : GT)  (k : Nat) (hk1 : 1 ≤ k) (hk2 : k ≤ 127) : MI lau G 2 yX8_middleOf cX8_middleOf 1 (some .int) [.int (nI k)] ([]) (fun u : Unit => []) (fun r u => r = nI (mdO k)) := by
  have hgeo := geo_all k (by omega) hk1
  refine mi_of (by decide +kernel) (Nat.le_of_ble_eq_true rfl) ?_
  intro p e s m args below meth c A Q F hr hlk hQ
  refine v_st (w' := []) (pc' := 0) (st' := []) rfl rfl rfl [0] (lv' := [(0, .int (nI k))]) rfl ?_
  refine v_iload_n F dX8_middleOf_0 0 rfl rfl ?_
  refine v_cSIE F cs_RX8_99 dX8_middleOf_1 (m_X8_firstOf lau G k (by omega) (by omega)) (by decide) rfl rfl (Nat.le_of_ble_eq_true rfl) ⟨Nat.zero_le _, Nat.zero_le _⟩ (fun r1 u2 w3 => ?_)
  subst w3
  refine v_iload_n F dX8_middleOf_4 0 rfl rfl ?_
  refine v_cSIE F cs_RX8_105 dX8_middleOf_5 (m_X8_lastOf lau G k (by omega) (by omega)) (by decide) rfl rfl (Nat.le_of_ble_eq_true rfl) ⟨Nat.zero_le _, Nat.zero_le _⟩ (fun r4 u5 w6 => ?_)
  subst w6
  refine v_iadd F dX8_middleOf_8 ?_
  refine v_topi (nI ((gF k) + (gL k))) (nI_add (gF k) (gL k)) ?_
  refine v_iconst (v := nI 2) F dX8_middleOf_9 (by decide) ?_
  refine v_idiv F dX8_middleOf_10 (by decide) ?_
  refine v_topi (nI (((gF k) + (gL k)) / 2)) (pk_div (by omega) (by decide) (by decide)) ?_
  exact v_iret F hr hlk hQ dX8_middleOf_11 (()) rfl (by rfl)
set_option maxHeartbeats 400000 in
set_option maxRecDepth 100000 in
theorem m_X8_hasAll (lau : Launch) (G : GT) (ad : Nat → Nat) (T : Nat → Int32) (n mo : Nat) (Hs : HT) (Xt : XT) (Tw : Nat) (Qs : QT) (Ks : KS) (Lo Wi : Nat → Int32) (l k : Nat) (hl : l < 20) (hk1 : 1 ≤ k) (hk2 : k ≤ 127) : MI lau G 2 yX8_hasAll cX8_hasAll 3 (some .boolean) [.ref (ad 0), .int (nI l), .int (nI k)] (wM ad G (snp T n mo) Hs Xt Tw Qs Ks Lo Wi) (fun u : Unit => wM ad G (snp T n mo) Hs Xt Tw Qs Ks Lo Wi) (fun r u => r = bI (hA T l k)) := by
  refine mi_of (by decide +kernel) (Nat.le_of_ble_eq_true rfl) ?_
  intro p e s m args below meth c A Q F hr hlk hQ
  refine v_st (w' := wM ad G (snp T n mo) Hs Xt Tw Qs Ks Lo Wi) (pc' := 0) (st' := []) rfl rfl rfl [0, 1, 2] (lv' := [(0, .ref (ad 0)), (1, .int (nI l)), (2, .int (nI k))]) rfl ?_
  refine v_aload_n F dX8_hasAll_0 0 rfl rfl ?_
  refine v_iload_n F dX8_hasAll_1 1 rfl rfl ?_
  refine v_iconst (v := nI 2) F dX8_hasAll_2 (by decide) ?_
  refine v_cVIF F cs_RX8_50 dX8_hasAll_3 0 (ci := 8) rfl rfl (m_X8_of lau G ad T n mo Hs Xt Tw Qs Ks Lo Wi l 2 (by omega) (by omega)) (by decide) rfl rfl (Nat.le_of_ble_eq_true rfl) ⟨Nat.zero_le _, Nat.zero_le _⟩ (fun r1 u2 w3 => ?_)
  subst w3
  refine v_iload_n F dX8_hasAll_6 2 rfl rfl ?_
  refine v_cSIE F cs_RX8_99 dX8_hasAll_7 (m_X8_firstOf lau G k (by omega) (by omega)) (by decide) rfl rfl (Nat.le_of_ble_eq_true rfl) ⟨Nat.zero_le _, Nat.zero_le _⟩ (fun r4 u5 w6 => ?_)
  subst w6
  refine v_icmp_gt F 30 dX8_hasAll_10 (by decide) (fun c7 => ?_) (fun c7 => ?_)
  · have h10 := Int32.not_le.mpr c7
    refine v_iconst (v := nI 0) F dX8_hasAll_30 (by decide) ?_
    exact v_zret F hr hlk hQ rfl dX8_hasAll_31 (()) rfl (by simp [hA, bI, nI_0, nI_one, *])
  · refine v_aload_n F dX8_hasAll_13 0 rfl rfl ?_
    refine v_iload_n F dX8_hasAll_14 1 rfl rfl ?_
    refine v_iconst (v := nI 3) F dX8_hasAll_15 (by decide) ?_
    refine v_cVIF F cs_RX8_50 dX8_hasAll_16 0 (ci := 8) rfl rfl (m_X8_of lau G ad T n mo Hs Xt Tw Qs Ks Lo Wi l 3 (by omega) (by omega)) (by decide) rfl rfl (Nat.le_of_ble_eq_true rfl) ⟨Nat.zero_le _, Nat.zero_le _⟩ (fun r8 u9 w10 => ?_)
    subst w10
    refine v_iload_n F dX8_hasAll_19 2 rfl rfl ?_
    refine v_cSIE F cs_RX8_105 dX8_hasAll_20 (m_X8_lastOf lau G k (by omega) (by omega)) (by decide) rfl rfl (Nat.le_of_ble_eq_true rfl) ⟨Nat.zero_le _, Nat.zero_le _⟩ (fun r11 u12 w13 => ?_)
    subst w13
    refine v_icmp_lt F 30 dX8_hasAll_23 (by decide) (fun c14 => ?_) (fun c14 => ?_)
    · have h23 := Int32.not_le.mpr c14
      refine v_iconst (v := nI 0) F dX8_hasAll_30 (by decide) ?_
      exact v_zret F hr hlk hQ rfl dX8_hasAll_31 (()) rfl (by simp [hA, bI, nI_0, nI_one, *])
    · refine v_iconst (v := nI 1) F dX8_hasAll_26 (by decide) ?_
      refine v_goto F 31 dX8_hasAll_27 (by decide) ?_
      exact v_zret F hr hlk hQ rfl dX8_hasAll_31 (()) rfl (by simp [hA, bI, nI_0, nI_one, *])
theorem cs_RX8_108 : CSS RX8 108 yX8_middleOf cX8_middleOf 1 (some .int) 1 := ⟨wC_yX8_middleOf, wM_RX8_108, wSt_yX8_middleOf, wI_RX8, by decide +kernel, by decide⟩
set_option maxHeartbeats 400000 in
set_option maxRecDepth 100000 in
theorem m_X8_goesDown (lau : Launch) (G : GT) (ad : Nat → Nat) (T : Nat → Int32) (n mo : Nat) (Hs : HT) (Xt : XT) (Tw : Nat) (Qs : QT) (ke sp : Nat → Int32) (Lo Wi : Nat → Int32) (l k : Nat) (hl : l < n) (hk1 : 1 ≤ k) (hk2 : k ≤ 127) (hn : n ≤ 20) (hK : KOK ke n) : MV lau G 4 yX8_goesDown cX8_goesDown 6 none [.ref (ad 0), .int (nI l), .int (nI k)] (wM ad G (snp T n mo) Hs Xt Tw Qs (ke, sp) Lo Wi) (fun u : Unit => wM ad G (snp T n mo) Hs Xt Tw Qs ((gd T 8 l k (ke, sp)).1, (gd T 8 l k (ke, sp)).2) Lo Wi) (fun u => True) := by
  refine mv_of (by decide +kernel) (Nat.le_of_ble_eq_true rfl) ?_
  intro p e s m args below meth c A Q F hr hlk hQ
  refine v_st (w' := wM ad G (snp T n mo) Hs Xt Tw Qs (ke, sp) Lo Wi) (pc' := 0) (st' := []) rfl rfl rfl [0, 1, 2] (lv' := [(0, .ref (ad 0)), (1, .int (nI l)), (2, .int (nI k))]) rfl ?_
  refine v_iload_n F dX8_goesDown_0 1 rfl rfl ?_
  refine v_istore_n (lv' := [(3, .int (nI l)), (0, .ref (ad 0)), (1, .int (nI l)), (2, .int (nI k))]) F dX8_goesDown_1 3 rfl (by decide) rfl ?_
  refine v_iload_n F dX8_goesDown_2 2 rfl rfl ?_
  refine v_istore (lv' := [(4, .int (nI k)), (3, .int (nI l)), (0, .ref (ad 0)), (1, .int (nI l)), (2, .int (nI k))]) F dX8_goesDown_3 (by decide) rfl ?_
  have L5 : ∀ (k_ : Nat) (f : Nat) (li : Nat) (kk : Nat) (ke2 : Nat → Int32) (sp2 : Nat → Int32), f < k_ → (gd T f li kk (ke2, sp2) = gd T 8 l k (ke, sp)) → (kk = 0 ∨ 128 ≤ kk * 2 ^ f) → (kk ≤ 127) → (li < n) → (KOK ke2 n) → V p lau e (RM 4) s m args below meth c 6 G A Q (wM ad G (snp T n mo) Hs Xt Tw Qs (ke2, sp2) Lo Wi) 0 0 5 [(4, .int (nI kk)), (3, .int (nI li)), (0, .ref (ad 0)), (1, .int (nI l)), (2, .int (nI k))] [] := by
    intro k_
    induction k_ with
    | zero => exact fun f li kk ke2 sp2 hk_ hX hf hkk hli hK2 => absurd hk_ (Nat.not_lt_zero _)
    | succ k_ ih5 =>
      intro f li kk ke2 sp2 hk_5 hX hf hkk hli hK2
      refine v_iload F dX8_goesDown_5 rfl ?_
      refine v_if_le F 171 dX8_goesDown_7 (by decide) (fun c1 => ?_) (fun c1 => ?_)
      · replace c1 := nK (a := kk) (b := 0) (by omega) (by decide) c1
        have hkz : kk = 0 := by omega
        subst hkz
        refine v_w (w' := wM ad G (snp T n mo) Hs Xt Tw Qs ((gd T 8 l k (ke, sp)).1, (gd T 8 l k (ke, sp)).2) Lo Wi) (congrArg (fun z_ => wM ad G (snp T n mo) Hs Xt Tw Qs z_ Lo Wi) (show (ke2, sp2) = ((gd T 8 l k (ke, sp)).1, (gd T 8 l k (ke, sp)).2) by first | (rw [← hX, gd_0]; done) | (rw [← hX, gd_s1 (by omega) h29]; done))) ?_
        exact v_vret F hr hlk hQ dX8_goesDown_171 (()) rfl (by trivial)
      · replace c1 := nKn (a := kk) (b := 0) (by omega) (by decide) c1
        obtain ⟨f2, rfl⟩ := gd_f hf c1 hkk
        have hkx := gd_k hf c1
        have hwa := wd_all kk (by omega) (by omega)
        refine v_aload_n F dX8_goesDown_10 0 rfl rfl ?_
        refine v_get (v := .ref (ad 6)) F inlX8 (ci := 8) rfl 12 (by decide) rfl wF_RX8_25 dX8_goesDown_11 0 rfl rfl ?_
        refine v_iload F dX8_goesDown_14 rfl ?_
        refine v_dup2_11 F dX8_goesDown_16 rfl rfl ?_
        refine v_ialdN F dX8_goesDown_17 6 rfl kk rfl (by omega) (by decide) (sp2 kk) rfl ?_
        refine v_iconst (v := nI 1) F dX8_goesDown_18 (by decide) ?_
        refine v_iadd F dX8_goesDown_19 ?_
        refine v_iastN F dX8_goesDown_20 6 rfl kk rfl (by omega) (by decide) (wM ad G (snp T n mo) Hs Xt Tw Qs (ke2, upd sp2 kk ((sp2 kk) + nI 1)) Lo Wi) rfl ?_
        refine v_aload_n F dX8_goesDown_21 0 rfl rfl ?_
        refine v_get (v := .ref (ad 5)) F inlX8 (ci := 8) rfl 11 (by decide) rfl wF_RX8_22 dX8_goesDown_22 0 rfl rfl ?_
        refine v_iload F dX8_goesDown_25 rfl ?_
        refine v_ialdN F dX8_goesDown_27 5 rfl kk rfl (by omega) (by decide) (ke2 kk) rfl ?_
        refine v_iconst (v := (-1)) F dX8_goesDown_28 (by decide) ?_
        refine v_icmp_ne F 41 dX8_goesDown_29 (by decide) (fun h29 => ?_) (fun h29 => ?_)
        · obtain ⟨g, hg, hkg⟩ := KOK_at hK2 (by omega) h29
          refine v_aload_n F dX8_goesDown_41 0 rfl rfl ?_
          refine v_iload_n F dX8_goesDown_42 3 rfl rfl ?_
          refine v_aload_n F dX8_goesDown_43 0 rfl rfl ?_
          refine v_get (v := .ref (ad 5)) F inlX8 (ci := 8) rfl 11 (by decide) rfl wF_RX8_22 dX8_goesDown_44 0 rfl rfl ?_
          refine v_iload F dX8_goesDown_47 rfl ?_
          refine v_ialdN F dX8_goesDown_49 5 rfl kk rfl (by omega) (by decide) (ke2 kk) rfl ?_
          refine v_topi (nI g) (hkg) ?_
          refine v_iload F dX8_goesDown_50 rfl ?_
          refine v_cSIE F cs_RX8_108 dX8_goesDown_52 (m_X8_middleOf lau G kk (by omega) (by omega)) (by decide) rfl rfl (Nat.le_of_ble_eq_true rfl) ⟨Nat.zero_le _, Nat.zero_le _⟩ (fun r2 u3 w4 => ?_)
          subst w4
          refine v_cVIF F cs_RX8_111 dX8_goesDown_55 0 (ci := 8) rfl rfl (m_X8_isLower lau G ad T n mo Hs Xt Tw Qs (ke2, upd sp2 kk ((sp2 kk) + nI 1)) Lo Wi li g (mdO kk) (by omega) (by omega)) (by decide) rfl rfl (Nat.le_of_ble_eq_true rfl) ⟨Nat.zero_le _, Nat.zero_le _⟩ (fun r5 u6 w7 => ?_)
          subst w7
          refine v_if_eq F 81 dX8_goesDown_58 (by decide) (fun h58 => ?_) (fun h58 => ?_)
          · replace h58 := bI_f h58
            refine v_iload F dX8_goesDown_81 rfl ?_
            refine v_cSIE F cs_RX8_102 dX8_goesDown_83 (m_X8_widthOf lau G kk (by omega) (by omega)) (by decide) rfl rfl (Nat.le_of_ble_eq_true rfl) ⟨Nat.zero_le _, Nat.zero_le _⟩ (fun r8 u9 w10 => ?_)
            subst w10
            refine v_iconst (v := nI 1) F dX8_goesDown_86 (by decide) ?_
            refine v_icmp_ne F 94 dX8_goesDown_87 (by decide) (fun h87 => ?_) (fun h87 => ?_)
            · replace h87 := nEn (a := (wdO kk)) (b := 1) (by omega) (by decide) h87
              have hk64 : kk < 64 := wd_64 hkk h87
              refine v_iconst (v := nI 0) F dX8_goesDown_94 (by decide) ?_
              refine v_istore (lv' := [(5, .int (nI 0)), (4, .int (nI kk)), (3, .int (nI li)), (0, .ref (ad 0)), (1, .int (nI l)), (2, .int (nI k))]) F dX8_goesDown_95 (by decide) rfl ?_
              refine v_iload F dX8_goesDown_97 rfl ?_
              refine v_if_ne F 131 dX8_goesDown_99 (by decide) (fun h => absurd h (by decide)) (fun _ => ?_)
              refine v_aload_n F dX8_goesDown_102 0 rfl rfl ?_
              refine v_iload_n F dX8_goesDown_103 3 rfl rfl ?_
              refine v_aload_n F dX8_goesDown_104 0 rfl rfl ?_
              refine v_get (v := .ref (ad 5)) F inlX8 (ci := 8) rfl 11 (by decide) rfl wF_RX8_22 dX8_goesDown_105 0 rfl rfl ?_
              refine v_iload F dX8_goesDown_108 rfl ?_
              refine v_ialdN F dX8_goesDown_110 5 rfl kk rfl (by omega) (by decide) (ke2 kk) rfl ?_
              refine v_topi (nI g) (hkg) ?_
              refine v_iload F dX8_goesDown_111 rfl ?_
              refine v_cSIE F cs_RX8_99 dX8_goesDown_113 (m_X8_firstOf lau G kk (by omega) (by omega)) (by decide) rfl rfl (Nat.le_of_ble_eq_true rfl) ⟨Nat.zero_le _, Nat.zero_le _⟩ (fun r11 u12 w13 => ?_)
              subst w13
              refine v_cVIF F cs_RX8_111 dX8_goesDown_116 0 (ci := 8) rfl rfl (m_X8_isLower lau G ad T n mo Hs Xt Tw Qs (ke2, upd sp2 kk ((sp2 kk) + nI 1)) Lo Wi li g (gF kk) (by omega) (by omega)) (by decide) rfl rfl (Nat.le_of_ble_eq_true rfl) ⟨Nat.zero_le _, Nat.zero_le _⟩ (fun r14 u15 w16 => ?_)
              subst w16
              refine v_if_eq F 131 dX8_goesDown_119 (by decide) (fun hc1 => ?_) (fun hc1 => ?_)
              · replace hc1 := bI_f hc1
                refine v_iload F dX8_goesDown_131 rfl ?_
                refine v_if_ne F 165 dX8_goesDown_133 (by decide) (fun h => absurd h (by decide)) (fun _ => ?_)
                refine v_aload_n F dX8_goesDown_136 0 rfl rfl ?_
                refine v_iload_n F dX8_goesDown_137 3 rfl rfl ?_
                refine v_aload_n F dX8_goesDown_138 0 rfl rfl ?_
                refine v_get (v := .ref (ad 5)) F inlX8 (ci := 8) rfl 11 (by decide) rfl wF_RX8_22 dX8_goesDown_139 0 rfl rfl ?_
                refine v_iload F dX8_goesDown_142 rfl ?_
                refine v_ialdN F dX8_goesDown_144 5 rfl kk rfl (by omega) (by decide) (ke2 kk) rfl ?_
                refine v_topi (nI g) (hkg) ?_
                refine v_iload F dX8_goesDown_145 rfl ?_
                refine v_cSIE F cs_RX8_105 dX8_goesDown_147 (m_X8_lastOf lau G kk (by omega) (by omega)) (by decide) rfl rfl (Nat.le_of_ble_eq_true rfl) ⟨Nat.zero_le _, Nat.zero_le _⟩ (fun r17 u18 w19 => ?_)
                subst w19
                refine v_cVIF F cs_RX8_111 dX8_goesDown_150 0 (ci := 8) rfl rfl (m_X8_isLower lau G ad T n mo Hs Xt Tw Qs (ke2, upd sp2 kk ((sp2 kk) + nI 1)) Lo Wi li g (gL kk) (by omega) (by omega)) (by decide) rfl rfl (Nat.le_of_ble_eq_true rfl) ⟨Nat.zero_le _, Nat.zero_le _⟩ (fun r20 u21 w22 => ?_)
                subst w22
                refine v_if_eq F 165 dX8_goesDown_153 (by decide) (fun hc2 => ?_) (fun hc2 => ?_)
                · replace hc2 := bI_f hc2
                  refine v_iconst (v := nI 0) F dX8_goesDown_165 (by decide) ?_
                  refine v_istore (lv' := [(4, .int (nI 0)), (5, .int (nI 0)), (3, .int (nI li)), (0, .ref (ad 0)), (1, .int (nI l)), (2, .int (nI k))]) F dX8_goesDown_166 (by decide) rfl ?_
                  refine v_goto F 5 dX8_goesDown_168 (by decide) ?_
                  refine v_st (w' := wM ad G (snp T n mo) Hs Xt Tw Qs (ke2, upd sp2 kk ((sp2 kk) + nI 1)) Lo Wi) (pc' := 5) (st' := []) rfl rfl rfl [0, 2, 3, 4, 5] (lv' := [(4, .int (nI 0)), (3, .int (nI li)), (0, .ref (ad 0)), (1, .int (nI l)), (2, .int (nI k))]) rfl ?_
                  exact ih5 f2 li 0 ke2 (upd sp2 kk ((sp2 kk) + nI 1)) (by omega) (by first | (rw [← hX, gd_s2 (by omega) hkg (by omega) h58, if_neg h87, if_pos hc1]; done) | (rw [← hX, gd_s2 (by omega) hkg (by omega) h58, if_neg h87, if_neg (ntb hc1), if_pos hc2]; done) | (rw [← hX, gd_s2 (by omega) hkg (by omega) h58, if_neg h87, if_neg (ntb hc1), if_neg (ntb hc2), gd_0]; done) | (rw [← hX, gd_s2 (by omega) hkg (by omega) h58, if_pos h87, gd_0]; done) | (rw [← hX, gd_s3 (by omega) hkg (by omega) h58, if_neg h87, if_pos hc1]; done) | (rw [← hX, gd_s3 (by omega) hkg (by omega) h58, if_neg h87, if_neg (ntb hc1), if_pos hc2]; done) | (rw [← hX, gd_s3 (by omega) hkg (by omega) h58, if_neg h87, if_neg (ntb hc1), if_neg (ntb hc2), gd_0]; done) | (rw [← hX, gd_s3 (by omega) hkg (by omega) h58, if_pos h87, gd_0]; done)) (by first | exact Or.inl rfl | exact Or.inr hkx.1 | exact Or.inr hkx.2) (by omega) (by omega) (by first | exact hK2 | exact KOK_upd hK2 hli)
                · replace hc2 := bI_t hc2
                  refine v_iconst (v := nI 2) F dX8_goesDown_156 (by decide) ?_
                  refine v_iload F dX8_goesDown_157 rfl ?_
                  refine v_imul F dX8_goesDown_159 ?_
                  refine v_topi (nI (2 * kk)) (pk_mul 2 kk) ?_
                  refine v_iconst (v := nI 1) F dX8_goesDown_160 (by decide) ?_
                  refine v_iadd F dX8_goesDown_161 ?_
                  refine v_topi (nI ((2 * kk) + 1)) (nI_add (2 * kk) 1) ?_
                  refine v_goto F 166 dX8_goesDown_162 (by decide) ?_
                  refine v_istore (lv' := [(4, .int (nI ((2 * kk) + 1))), (5, .int (nI 0)), (3, .int (nI li)), (0, .ref (ad 0)), (1, .int (nI l)), (2, .int (nI k))]) F dX8_goesDown_166 (by decide) rfl ?_
                  refine v_goto F 5 dX8_goesDown_168 (by decide) ?_
                  refine v_st (w' := wM ad G (snp T n mo) Hs Xt Tw Qs (ke2, upd sp2 kk ((sp2 kk) + nI 1)) Lo Wi) (pc' := 5) (st' := []) rfl rfl rfl [0, 2, 3, 4, 5] (lv' := [(4, .int (nI ((2 * kk) + 1))), (3, .int (nI li)), (0, .ref (ad 0)), (1, .int (nI l)), (2, .int (nI k))]) rfl ?_
                  exact ih5 f2 li ((2 * kk) + 1) ke2 (upd sp2 kk ((sp2 kk) + nI 1)) (by omega) (by first | (rw [← hX, gd_s2 (by omega) hkg (by omega) h58, if_neg h87, if_pos hc1]; done) | (rw [← hX, gd_s2 (by omega) hkg (by omega) h58, if_neg h87, if_neg (ntb hc1), if_pos hc2]; done) | (rw [← hX, gd_s2 (by omega) hkg (by omega) h58, if_neg h87, if_neg (ntb hc1), if_neg (ntb hc2), gd_0]; done) | (rw [← hX, gd_s2 (by omega) hkg (by omega) h58, if_pos h87, gd_0]; done) | (rw [← hX, gd_s3 (by omega) hkg (by omega) h58, if_neg h87, if_pos hc1]; done) | (rw [← hX, gd_s3 (by omega) hkg (by omega) h58, if_neg h87, if_neg (ntb hc1), if_pos hc2]; done) | (rw [← hX, gd_s3 (by omega) hkg (by omega) h58, if_neg h87, if_neg (ntb hc1), if_neg (ntb hc2), gd_0]; done) | (rw [← hX, gd_s3 (by omega) hkg (by omega) h58, if_pos h87, gd_0]; done)) (by first | exact Or.inl rfl | exact Or.inr hkx.1 | exact Or.inr hkx.2) (by omega) (by omega) (by first | exact hK2 | exact KOK_upd hK2 hli)
              · replace hc1 := bI_t hc1
                refine v_iconst (v := nI 2) F dX8_goesDown_122 (by decide) ?_
                refine v_iload F dX8_goesDown_123 rfl ?_
                refine v_imul F dX8_goesDown_125 ?_
                refine v_topi (nI (2 * kk)) (pk_mul 2 kk) ?_
                refine v_istore (lv' := [(4, .int (nI (2 * kk))), (5, .int (nI 0)), (3, .int (nI li)), (0, .ref (ad 0)), (1, .int (nI l)), (2, .int (nI k))]) F dX8_goesDown_126 (by decide) rfl ?_
                refine v_goto F 168 dX8_goesDown_128 (by decide) ?_
                refine v_goto F 5 dX8_goesDown_168 (by decide) ?_
                refine v_st (w' := wM ad G (snp T n mo) Hs Xt Tw Qs (ke2, upd sp2 kk ((sp2 kk) + nI 1)) Lo Wi) (pc' := 5) (st' := []) rfl rfl rfl [0, 2, 3, 4, 5] (lv' := [(4, .int (nI (2 * kk))), (3, .int (nI li)), (0, .ref (ad 0)), (1, .int (nI l)), (2, .int (nI k))]) rfl ?_
                exact ih5 f2 li (2 * kk) ke2 (upd sp2 kk ((sp2 kk) + nI 1)) (by omega) (by first | (rw [← hX, gd_s2 (by omega) hkg (by omega) h58, if_neg h87, if_pos hc1]; done) | (rw [← hX, gd_s2 (by omega) hkg (by omega) h58, if_neg h87, if_neg (ntb hc1), if_pos hc2]; done) | (rw [← hX, gd_s2 (by omega) hkg (by omega) h58, if_neg h87, if_neg (ntb hc1), if_neg (ntb hc2), gd_0]; done) | (rw [← hX, gd_s2 (by omega) hkg (by omega) h58, if_pos h87, gd_0]; done) | (rw [← hX, gd_s3 (by omega) hkg (by omega) h58, if_neg h87, if_pos hc1]; done) | (rw [← hX, gd_s3 (by omega) hkg (by omega) h58, if_neg h87, if_neg (ntb hc1), if_pos hc2]; done) | (rw [← hX, gd_s3 (by omega) hkg (by omega) h58, if_neg h87, if_neg (ntb hc1), if_neg (ntb hc2), gd_0]; done) | (rw [← hX, gd_s3 (by omega) hkg (by omega) h58, if_pos h87, gd_0]; done)) (by first | exact Or.inl rfl | exact Or.inr hkx.1 | exact Or.inr hkx.2) (by omega) (by omega) (by first | exact hK2 | exact KOK_upd hK2 hli)
            · replace h87 := nE (a := (wdO kk)) (b := 1) (by omega) (by decide) h87
              refine v_iconst (v := nI 1) F dX8_goesDown_90 (by decide) ?_
              refine v_goto F 95 dX8_goesDown_91 (by decide) ?_
              refine v_istore (lv' := [(5, .int (nI 1)), (4, .int (nI kk)), (3, .int (nI li)), (0, .ref (ad 0)), (1, .int (nI l)), (2, .int (nI k))]) F dX8_goesDown_95 (by decide) rfl ?_
              refine v_iload F dX8_goesDown_97 rfl ?_
              refine v_if_ne F 131 dX8_goesDown_99 (by decide) (fun _ => ?_) (fun h => absurd h (by decide))
              refine v_iload F dX8_goesDown_131 rfl ?_
              refine v_if_ne F 165 dX8_goesDown_133 (by decide) (fun _ => ?_) (fun h => absurd h (by decide))
              refine v_iconst (v := nI 0) F dX8_goesDown_165 (by decide) ?_
              refine v_istore (lv' := [(4, .int (nI 0)), (5, .int (nI 1)), (3, .int (nI li)), (0, .ref (ad 0)), (1, .int (nI l)), (2, .int (nI k))]) F dX8_goesDown_166 (by decide) rfl ?_
              refine v_goto F 5 dX8_goesDown_168 (by decide) ?_
              refine v_st (w' := wM ad G (snp T n mo) Hs Xt Tw Qs (ke2, upd sp2 kk ((sp2 kk) + nI 1)) Lo Wi) (pc' := 5) (st' := []) rfl rfl rfl [0, 2, 3, 4, 5] (lv' := [(4, .int (nI 0)), (3, .int (nI li)), (0, .ref (ad 0)), (1, .int (nI l)), (2, .int (nI k))]) rfl ?_
              exact ih5 f2 li 0 ke2 (upd sp2 kk ((sp2 kk) + nI 1)) (by omega) (by first | (rw [← hX, gd_s2 (by omega) hkg (by omega) h58, if_neg h87, if_pos hc1]; done) | (rw [← hX, gd_s2 (by omega) hkg (by omega) h58, if_neg h87, if_neg (ntb hc1), if_pos hc2]; done) | (rw [← hX, gd_s2 (by omega) hkg (by omega) h58, if_neg h87, if_neg (ntb hc1), if_neg (ntb hc2), gd_0]; done) | (rw [← hX, gd_s2 (by omega) hkg (by omega) h58, if_pos h87, gd_0]; done) | (rw [← hX, gd_s3 (by omega) hkg (by omega) h58, if_neg h87, if_pos hc1]; done) | (rw [← hX, gd_s3 (by omega) hkg (by omega) h58, if_neg h87, if_neg (ntb hc1), if_pos hc2]; done) | (rw [← hX, gd_s3 (by omega) hkg (by omega) h58, if_neg h87, if_neg (ntb hc1), if_neg (ntb hc2), gd_0]; done) | (rw [← hX, gd_s3 (by omega) hkg (by omega) h58, if_pos h87, gd_0]; done)) (by first | exact Or.inl rfl | exact Or.inr hkx.1 | exact Or.inr hkx.2) (by omega) (by omega) (by first | exact hK2 | exact KOK_upd hK2 hli)
          · replace h58 := bI_t h58
            refine v_aload_n F dX8_goesDown_61 0 rfl rfl ?_
            refine v_get (v := .ref (ad 5)) F inlX8 (ci := 8) rfl 11 (by decide) rfl wF_RX8_22 dX8_goesDown_62 0 rfl rfl ?_
            refine v_iload F dX8_goesDown_65 rfl ?_
            refine v_ialdN F dX8_goesDown_67 5 rfl kk rfl (by omega) (by decide) (ke2 kk) rfl ?_
            refine v_topi (nI g) (hkg) ?_
            refine v_istore (lv' := [(5, .int (nI g)), (4, .int (nI kk)), (3, .int (nI li)), (0, .ref (ad 0)), (1, .int (nI l)), (2, .int (nI k))]) F dX8_goesDown_68 (by decide) rfl ?_
            refine v_aload_n F dX8_goesDown_70 0 rfl rfl ?_
            refine v_get (v := .ref (ad 5)) F inlX8 (ci := 8) rfl 11 (by decide) rfl wF_RX8_22 dX8_goesDown_71 0 rfl rfl ?_
            refine v_iload F dX8_goesDown_74 rfl ?_
            refine v_iload_n F dX8_goesDown_76 3 rfl rfl ?_
            refine v_iastN F dX8_goesDown_77 5 rfl kk rfl (by omega) (by decide) (wM ad G (snp T n mo) Hs Xt Tw Qs (upd ke2 kk (nI li), upd sp2 kk ((sp2 kk) + nI 1)) Lo Wi) rfl ?_
            refine v_iload F dX8_goesDown_78 rfl ?_
            refine v_istore_n (lv' := [(3, .int (nI g)), (5, .int (nI g)), (4, .int (nI kk)), (0, .ref (ad 0)), (1, .int (nI l)), (2, .int (nI k))]) F dX8_goesDown_80 3 rfl (by decide) rfl ?_
            refine v_iload F dX8_goesDown_81 rfl ?_
            refine v_cSIE F cs_RX8_102 dX8_goesDown_83 (m_X8_widthOf lau G kk (by omega) (by omega)) (by decide) rfl rfl (Nat.le_of_ble_eq_true rfl) ⟨Nat.zero_le _, Nat.zero_le _⟩ (fun r23 u24 w25 => ?_)
            subst w25
            refine v_iconst (v := nI 1) F dX8_goesDown_86 (by decide) ?_
            refine v_icmp_ne F 94 dX8_goesDown_87 (by decide) (fun h87 => ?_) (fun h87 => ?_)
            · replace h87 := nEn (a := (wdO kk)) (b := 1) (by omega) (by decide) h87
              have hk64 : kk < 64 := wd_64 hkk h87
              refine v_iconst (v := nI 0) F dX8_goesDown_94 (by decide) ?_
              refine v_istore (lv' := [(5, .int (nI 0)), (3, .int (nI g)), (4, .int (nI kk)), (0, .ref (ad 0)), (1, .int (nI l)), (2, .int (nI k))]) F dX8_goesDown_95 (by decide) rfl ?_
              refine v_iload F dX8_goesDown_97 rfl ?_
              refine v_if_ne F 131 dX8_goesDown_99 (by decide) (fun h => absurd h (by decide)) (fun _ => ?_)
              refine v_aload_n F dX8_goesDown_102 0 rfl rfl ?_
              refine v_iload_n F dX8_goesDown_103 3 rfl rfl ?_
              refine v_aload_n F dX8_goesDown_104 0 rfl rfl ?_
              refine v_get (v := .ref (ad 5)) F inlX8 (ci := 8) rfl 11 (by decide) rfl wF_RX8_22 dX8_goesDown_105 0 rfl rfl ?_
              refine v_iload F dX8_goesDown_108 rfl ?_
              refine v_ialdN F dX8_goesDown_110 5 rfl kk rfl (by omega) (by decide) ((upd ke2 kk (nI li)) kk) rfl ?_
              refine v_topi (nI li) (upd_s) ?_
              refine v_iload F dX8_goesDown_111 rfl ?_
              refine v_cSIE F cs_RX8_99 dX8_goesDown_113 (m_X8_firstOf lau G kk (by omega) (by omega)) (by decide) rfl rfl (Nat.le_of_ble_eq_true rfl) ⟨Nat.zero_le _, Nat.zero_le _⟩ (fun r26 u27 w28 => ?_)
              subst w28
              refine v_cVIF F cs_RX8_111 dX8_goesDown_116 0 (ci := 8) rfl rfl (m_X8_isLower lau G ad T n mo Hs Xt Tw Qs (upd ke2 kk (nI li), upd sp2 kk ((sp2 kk) + nI 1)) Lo Wi g li (gF kk) (by omega) (by omega)) (by decide) rfl rfl (Nat.le_of_ble_eq_true rfl) ⟨Nat.zero_le _, Nat.zero_le _⟩ (fun r29 u30 w31 => ?_)
              subst w31
              refine v_if_eq F 131 dX8_goesDown_119 (by decide) (fun hc1 => ?_) (fun hc1 => ?_)
              · replace hc1 := bI_f hc1
                refine v_iload F dX8_goesDown_131 rfl ?_
                refine v_if_ne F 165 dX8_goesDown_133 (by decide) (fun h => absurd h (by decide)) (fun _ => ?_)
                refine v_aload_n F dX8_goesDown_136 0 rfl rfl ?_
                refine v_iload_n F dX8_goesDown_137 3 rfl rfl ?_
                refine v_aload_n F dX8_goesDown_138 0 rfl rfl ?_
                refine v_get (v := .ref (ad 5)) F inlX8 (ci := 8) rfl 11 (by decide) rfl wF_RX8_22 dX8_goesDown_139 0 rfl rfl ?_
                refine v_iload F dX8_goesDown_142 rfl ?_
                refine v_ialdN F dX8_goesDown_144 5 rfl kk rfl (by omega) (by decide) ((upd ke2 kk (nI li)) kk) rfl ?_
                refine v_topi (nI li) (upd_s) ?_
                refine v_iload F dX8_goesDown_145 rfl ?_
                refine v_cSIE F cs_RX8_105 dX8_goesDown_147 (m_X8_lastOf lau G kk (by omega) (by omega)) (by decide) rfl rfl (Nat.le_of_ble_eq_true rfl) ⟨Nat.zero_le _, Nat.zero_le _⟩ (fun r32 u33 w34 => ?_)
                subst w34
                refine v_cVIF F cs_RX8_111 dX8_goesDown_150 0 (ci := 8) rfl rfl (m_X8_isLower lau G ad T n mo Hs Xt Tw Qs (upd ke2 kk (nI li), upd sp2 kk ((sp2 kk) + nI 1)) Lo Wi g li (gL kk) (by omega) (by omega)) (by decide) rfl rfl (Nat.le_of_ble_eq_true rfl) ⟨Nat.zero_le _, Nat.zero_le _⟩ (fun r35 u36 w37 => ?_)
                subst w37
                refine v_if_eq F 165 dX8_goesDown_153 (by decide) (fun hc2 => ?_) (fun hc2 => ?_)
                · replace hc2 := bI_f hc2
                  refine v_iconst (v := nI 0) F dX8_goesDown_165 (by decide) ?_
                  refine v_istore (lv' := [(4, .int (nI 0)), (5, .int (nI 0)), (3, .int (nI g)), (0, .ref (ad 0)), (1, .int (nI l)), (2, .int (nI k))]) F dX8_goesDown_166 (by decide) rfl ?_
                  refine v_goto F 5 dX8_goesDown_168 (by decide) ?_
                  refine v_st (w' := wM ad G (snp T n mo) Hs Xt Tw Qs (upd ke2 kk (nI li), upd sp2 kk ((sp2 kk) + nI 1)) Lo Wi) (pc' := 5) (st' := []) rfl rfl rfl [0, 2, 3, 4, 5] (lv' := [(4, .int (nI 0)), (3, .int (nI g)), (0, .ref (ad 0)), (1, .int (nI l)), (2, .int (nI k))]) rfl ?_
                  exact ih5 f2 g 0 (upd ke2 kk (nI li)) (upd sp2 kk ((sp2 kk) + nI 1)) (by omega) (by first | (rw [← hX, gd_s2 (by omega) hkg (by omega) h58, if_neg h87, if_pos hc1]; done) | (rw [← hX, gd_s2 (by omega) hkg (by omega) h58, if_neg h87, if_neg (ntb hc1), if_pos hc2]; done) | (rw [← hX, gd_s2 (by omega) hkg (by omega) h58, if_neg h87, if_neg (ntb hc1), if_neg (ntb hc2), gd_0]; done) | (rw [← hX, gd_s2 (by omega) hkg (by omega) h58, if_pos h87, gd_0]; done) | (rw [← hX, gd_s3 (by omega) hkg (by omega) h58, if_neg h87, if_pos hc1]; done) | (rw [← hX, gd_s3 (by omega) hkg (by omega) h58, if_neg h87, if_neg (ntb hc1), if_pos hc2]; done) | (rw [← hX, gd_s3 (by omega) hkg (by omega) h58, if_neg h87, if_neg (ntb hc1), if_neg (ntb hc2), gd_0]; done) | (rw [← hX, gd_s3 (by omega) hkg (by omega) h58, if_pos h87, gd_0]; done)) (by first | exact Or.inl rfl | exact Or.inr hkx.1 | exact Or.inr hkx.2) (by omega) (by omega) (by first | exact hK2 | exact KOK_upd hK2 hli)
                · replace hc2 := bI_t hc2
                  refine v_iconst (v := nI 2) F dX8_goesDown_156 (by decide) ?_
                  refine v_iload F dX8_goesDown_157 rfl ?_
                  refine v_imul F dX8_goesDown_159 ?_
                  refine v_topi (nI (2 * kk)) (pk_mul 2 kk) ?_
                  refine v_iconst (v := nI 1) F dX8_goesDown_160 (by decide) ?_
                  refine v_iadd F dX8_goesDown_161 ?_
                  refine v_topi (nI ((2 * kk) + 1)) (nI_add (2 * kk) 1) ?_
                  refine v_goto F 166 dX8_goesDown_162 (by decide) ?_
                  refine v_istore (lv' := [(4, .int (nI ((2 * kk) + 1))), (5, .int (nI 0)), (3, .int (nI g)), (0, .ref (ad 0)), (1, .int (nI l)), (2, .int (nI k))]) F dX8_goesDown_166 (by decide) rfl ?_
                  refine v_goto F 5 dX8_goesDown_168 (by decide) ?_
                  refine v_st (w' := wM ad G (snp T n mo) Hs Xt Tw Qs (upd ke2 kk (nI li), upd sp2 kk ((sp2 kk) + nI 1)) Lo Wi) (pc' := 5) (st' := []) rfl rfl rfl [0, 2, 3, 4, 5] (lv' := [(4, .int (nI ((2 * kk) + 1))), (3, .int (nI g)), (0, .ref (ad 0)), (1, .int (nI l)), (2, .int (nI k))]) rfl ?_
                  exact ih5 f2 g ((2 * kk) + 1) (upd ke2 kk (nI li)) (upd sp2 kk ((sp2 kk) + nI 1)) (by omega) (by first | (rw [← hX, gd_s2 (by omega) hkg (by omega) h58, if_neg h87, if_pos hc1]; done) | (rw [← hX, gd_s2 (by omega) hkg (by omega) h58, if_neg h87, if_neg (ntb hc1), if_pos hc2]; done) | (rw [← hX, gd_s2 (by omega) hkg (by omega) h58, if_neg h87, if_neg (ntb hc1), if_neg (ntb hc2), gd_0]; done) | (rw [← hX, gd_s2 (by omega) hkg (by omega) h58, if_pos h87, gd_0]; done) | (rw [← hX, gd_s3 (by omega) hkg (by omega) h58, if_neg h87, if_pos hc1]; done) | (rw [← hX, gd_s3 (by omega) hkg (by omega) h58, if_neg h87, if_neg (ntb hc1), if_pos hc2]; done) | (rw [← hX, gd_s3 (by omega) hkg (by omega) h58, if_neg h87, if_neg (ntb hc1), if_neg (ntb hc2), gd_0]; done) | (rw [← hX, gd_s3 (by omega) hkg (by omega) h58, if_pos h87, gd_0]; done)) (by first | exact Or.inl rfl | exact Or.inr hkx.1 | exact Or.inr hkx.2) (by omega) (by omega) (by first | exact hK2 | exact KOK_upd hK2 hli)
              · replace hc1 := bI_t hc1
                refine v_iconst (v := nI 2) F dX8_goesDown_122 (by decide) ?_
                refine v_iload F dX8_goesDown_123 rfl ?_
                refine v_imul F dX8_goesDown_125 ?_
                refine v_topi (nI (2 * kk)) (pk_mul 2 kk) ?_
                refine v_istore (lv' := [(4, .int (nI (2 * kk))), (5, .int (nI 0)), (3, .int (nI g)), (0, .ref (ad 0)), (1, .int (nI l)), (2, .int (nI k))]) F dX8_goesDown_126 (by decide) rfl ?_
                refine v_goto F 168 dX8_goesDown_128 (by decide) ?_
                refine v_goto F 5 dX8_goesDown_168 (by decide) ?_
                refine v_st (w' := wM ad G (snp T n mo) Hs Xt Tw Qs (upd ke2 kk (nI li), upd sp2 kk ((sp2 kk) + nI 1)) Lo Wi) (pc' := 5) (st' := []) rfl rfl rfl [0, 2, 3, 4, 5] (lv' := [(4, .int (nI (2 * kk))), (3, .int (nI g)), (0, .ref (ad 0)), (1, .int (nI l)), (2, .int (nI k))]) rfl ?_
                exact ih5 f2 g (2 * kk) (upd ke2 kk (nI li)) (upd sp2 kk ((sp2 kk) + nI 1)) (by omega) (by first | (rw [← hX, gd_s2 (by omega) hkg (by omega) h58, if_neg h87, if_pos hc1]; done) | (rw [← hX, gd_s2 (by omega) hkg (by omega) h58, if_neg h87, if_neg (ntb hc1), if_pos hc2]; done) | (rw [← hX, gd_s2 (by omega) hkg (by omega) h58, if_neg h87, if_neg (ntb hc1), if_neg (ntb hc2), gd_0]; done) | (rw [← hX, gd_s2 (by omega) hkg (by omega) h58, if_pos h87, gd_0]; done) | (rw [← hX, gd_s3 (by omega) hkg (by omega) h58, if_neg h87, if_pos hc1]; done) | (rw [← hX, gd_s3 (by omega) hkg (by omega) h58, if_neg h87, if_neg (ntb hc1), if_pos hc2]; done) | (rw [← hX, gd_s3 (by omega) hkg (by omega) h58, if_neg h87, if_neg (ntb hc1), if_neg (ntb hc2), gd_0]; done) | (rw [← hX, gd_s3 (by omega) hkg (by omega) h58, if_pos h87, gd_0]; done)) (by first | exact Or.inl rfl | exact Or.inr hkx.1 | exact Or.inr hkx.2) (by omega) (by omega) (by first | exact hK2 | exact KOK_upd hK2 hli)
            · replace h87 := nE (a := (wdO kk)) (b := 1) (by omega) (by decide) h87
              refine v_iconst (v := nI 1) F dX8_goesDown_90 (by decide) ?_
              refine v_goto F 95 dX8_goesDown_91 (by decide) ?_
              refine v_istore (lv' := [(5, .int (nI 1)), (3, .int (nI g)), (4, .int (nI kk)), (0, .ref (ad 0)), (1, .int (nI l)), (2, .int (nI k))]) F dX8_goesDown_95 (by decide) rfl ?_
              refine v_iload F dX8_goesDown_97 rfl ?_
              refine v_if_ne F 131 dX8_goesDown_99 (by decide) (fun _ => ?_) (fun h => absurd h (by decide))
              refine v_iload F dX8_goesDown_131 rfl ?_
              refine v_if_ne F 165 dX8_goesDown_133 (by decide) (fun _ => ?_) (fun h => absurd h (by decide))
              refine v_iconst (v := nI 0) F dX8_goesDown_165 (by decide) ?_
              refine v_istore (lv' := [(4, .int (nI 0)), (5, .int (nI 1)), (3, .int (nI g)), (0, .ref (ad 0)), (1, .int (nI l)), (2, .int (nI k))]) F dX8_goesDown_166 (by decide) rfl ?_
              refine v_goto F 5 dX8_goesDown_168 (by decide) ?_
              refine v_st (w' := wM ad G (snp T n mo) Hs Xt Tw Qs (upd ke2 kk (nI li), upd sp2 kk ((sp2 kk) + nI 1)) Lo Wi) (pc' := 5) (st' := []) rfl rfl rfl [0, 2, 3, 4, 5] (lv' := [(4, .int (nI 0)), (3, .int (nI g)), (0, .ref (ad 0)), (1, .int (nI l)), (2, .int (nI k))]) rfl ?_
              exact ih5 f2 g 0 (upd ke2 kk (nI li)) (upd sp2 kk ((sp2 kk) + nI 1)) (by omega) (by first | (rw [← hX, gd_s2 (by omega) hkg (by omega) h58, if_neg h87, if_pos hc1]; done) | (rw [← hX, gd_s2 (by omega) hkg (by omega) h58, if_neg h87, if_neg (ntb hc1), if_pos hc2]; done) | (rw [← hX, gd_s2 (by omega) hkg (by omega) h58, if_neg h87, if_neg (ntb hc1), if_neg (ntb hc2), gd_0]; done) | (rw [← hX, gd_s2 (by omega) hkg (by omega) h58, if_pos h87, gd_0]; done) | (rw [← hX, gd_s3 (by omega) hkg (by omega) h58, if_neg h87, if_pos hc1]; done) | (rw [← hX, gd_s3 (by omega) hkg (by omega) h58, if_neg h87, if_neg (ntb hc1), if_pos hc2]; done) | (rw [← hX, gd_s3 (by omega) hkg (by omega) h58, if_neg h87, if_neg (ntb hc1), if_neg (ntb hc2), gd_0]; done) | (rw [← hX, gd_s3 (by omega) hkg (by omega) h58, if_pos h87, gd_0]; done)) (by first | exact Or.inl rfl | exact Or.inr hkx.1 | exact Or.inr hkx.2) (by omega) (by omega) (by first | exact hK2 | exact KOK_upd hK2 hli)
        · refine v_aload_n F dX8_goesDown_32 0 rfl rfl ?_
          refine v_get (v := .ref (ad 5)) F inlX8 (ci := 8) rfl 11 (by decide) rfl wF_RX8_22 dX8_goesDown_33 0 rfl rfl ?_
          refine v_iload F dX8_goesDown_36 rfl ?_
          refine v_iload_n F dX8_goesDown_38 3 rfl rfl ?_
          refine v_iastN F dX8_goesDown_39 5 rfl kk rfl (by omega) (by decide) (wM ad G (snp T n mo) Hs Xt Tw Qs (upd ke2 kk (nI li), upd sp2 kk ((sp2 kk) + nI 1)) Lo Wi) rfl ?_
          refine v_w (w' := wM ad G (snp T n mo) Hs Xt Tw Qs ((gd T 8 l k (ke, sp)).1, (gd T 8 l k (ke, sp)).2) Lo Wi) (congrArg (fun z_ => wM ad G (snp T n mo) Hs Xt Tw Qs z_ Lo Wi) (show (upd ke2 kk (nI li), upd sp2 kk ((sp2 kk) + nI 1)) = ((gd T 8 l k (ke, sp)).1, (gd T 8 l k (ke, sp)).2) by first | (rw [← hX, gd_0]; done) | (rw [← hX, gd_s1 (by omega) h29]; done))) ?_
          exact v_vret F hr hlk hQ dX8_goesDown_40 (()) rfl (by trivial)
  refine v_st (w' := wM ad G (snp T n mo) Hs Xt Tw Qs (ke, sp) Lo Wi) (pc' := 5) (st' := []) rfl rfl rfl [0, 1, 2, 3, 4] (lv' := [(4, .int (nI k)), (3, .int (nI l)), (0, .ref (ad 0)), (1, .int (nI l)), (2, .int (nI k))]) rfl ?_
  exact L5 _ 8 l k ke sp (Nat.lt_succ_self _) (rfl) (Or.inr (by omega)) (by omega) (by omega) (hK)
theorem cs_RX8_114 : CSV RX8 114 RX8 yX8_hasAll cX8_hasAll 3 (some .boolean) 2 := ⟨wC_yX8_hasAll, wM_RX8_114, wIm_yX8_hasAll, wSe_yX8_hasAll, wI_RX8, by decide +kernel, by decide⟩
theorem cs_RX8_118 : CSV RX8 118 RX8 yX8_goesDown cX8_goesDown 6 none 2 := ⟨wC_yX8_goesDown, wM_RX8_118, wIm_yX8_goesDown, wSe_yX8_goesDown, wI_RX8, by decide +kernel, by decide⟩
set_option maxHeartbeats 400000 in
set_option maxRecDepth 100000 in
theorem m_X8_grows (lau : Launch) (G : GT) (ad : Nat → Nat) (T : Nat → Int32) (n mo : Nat) (Hs : HT) (Xt : XT) (Tw : Nat) (Qs : QT) (ke sp : Nat → Int32) (Lo Wi : Nat → Int32) (hn : n ≤ 20) (hT : TOK T n) : MV lau G 5 yX8_grows cX8_grows 3 none [.ref (ad 0)] (wM ad G (snp T n mo) Hs Xt Tw Qs (ke, sp) Lo Wi) (fun u : KS => wM ad G (snp T n mo) Hs Xt Tw Qs u Lo Wi) (fun u => ∀ k, k < 128 → u.1 k = kp T n mo k ∧ u.2 k = stp T n mo k) := by
  refine mv_of (by decide +kernel) (Nat.le_of_ble_eq_true rfl) ?_
  intro p e s m args below meth c A Q F hr hlk hQ
  refine v_st (w' := wM ad G (snp T n mo) Hs Xt Tw Qs (ke, sp) Lo Wi) (pc' := 0) (st' := []) rfl rfl rfl [0] (lv' := [(0, .ref (ad 0))]) rfl ?_
  refine v_iconst (v := nI 0) F dX8_grows_0 (by decide) ?_
  refine v_istore_n (lv' := [(1, .int (nI 0)), (0, .ref (ad 0))]) F dX8_grows_1 1 rfl (by decide) rfl ?_
  have L2 : ∀ (k_ : Nat) (i : Nat), 128 - i < k_ → (i ≤ 128) → V p lau e (RM 5) s m args below meth c 3 G A Q (wM ad G (snp T n mo) Hs Xt Tw Qs (fillF ke (-1) i, fillF sp (nI 0) i) Lo Wi) 0 0 2 [(1, .int (nI i)), (0, .ref (ad 0))] [] := by
    intro k_
    induction k_ with
    | zero => exact fun i hk_ hi => absurd hk_ (Nat.not_lt_zero _)
    | succ k_ ih2 =>
      intro i hk_2 hi
      refine v_iload_n F dX8_grows_2 1 rfl rfl ?_
      refine v_sipush (v := nI 128) F dX8_grows_3 (by decide) ?_
      refine v_icmp_ge F 29 dX8_grows_6 (by decide) (fun c1 => ?_) (fun c1 => ?_)
      · replace c1 := nG (a := i) (b := 128) (by omega) (by decide) c1
        have hi9 : i = 128 := by omega
        subst hi9
        refine v_iconst (v := nI 0) F dX8_grows_29 (by decide) ?_
        refine v_istore_n (lv' := [(1, .int (nI 0)), (0, .ref (ad 0))]) F dX8_grows_30 1 rfl (by decide) rfl ?_
        have L31 : ∀ (k_ : Nat) (l : Nat), n - l < k_ → (l ≤ n) → V p lau e (RM 5) s m args below meth c 3 G A Q (wM ad G (snp T n mo) Hs Xt Tw Qs ((mA T mo (fillF ke (-1) 128, fillF sp (nI 0) 128) l).1, (mA T mo (fillF ke (-1) 128, fillF sp (nI 0) 128) l).2) Lo Wi) 0 0 31 [(1, .int (nI l)), (0, .ref (ad 0))] [] := by
          intro k_
          induction k_ with
          | zero => exact fun l hk_ hl => absurd hk_ (Nat.not_lt_zero _)
          | succ k_ ih31 =>
            intro l hk_31 hl
            refine v_iload_n F dX8_grows_31 1 rfl rfl ?_
            refine v_aload_n F dX8_grows_32 0 rfl rfl ?_
            refine v_get (v := .ref (ad 1)) F inlX8 (ci := 8) rfl 0 (by decide) rfl wF_RX8_7 dX8_grows_33 0 rfl rfl ?_
            refine v_iconst (v := nI 1) F dX8_grows_36 (by decide) ?_
            refine v_ialdN F dX8_grows_37 1 rfl 1 rfl (by omega) (by decide) ((snp T n mo) 1) rfl ?_
            refine v_topi (nI n) rfl ?_
            refine v_icmp_ge F 117 dX8_grows_38 (by decide) (fun c2 => ?_) (fun c2 => ?_)
            · replace c2 := nG (a := l) (b := n) (by omega) (by omega) c2
              exact v_vret F hr hlk hQ dX8_grows_117 (((mA T mo (fillF ke (-1) 128, fillF sp (nI 0) 128) l).1, (mA T mo (fillF ke (-1) 128, fillF sp (nI 0) 128) l).2)) rfl (by exact grow_val hn hT (by rw [show n = l by omega]))
            · replace c2 := nGn (a := l) (b := n) (by omega) (by omega) c2
              refine v_iconst (v := nI 1) F dX8_grows_41 (by decide) ?_
              refine v_istore_n (lv' := [(2, .int (nI 1)), (1, .int (nI l)), (0, .ref (ad 0))]) F dX8_grows_42 2 rfl (by decide) rfl ?_
              have L43 : ∀ (k_ : Nat) (nd : Nat), 128 - nd < k_ → (1 ≤ nd) → (nd ≤ 128) → (l < n) → (1 < nd → lvB T l (nI mo) = true) → V p lau e (RM 5) s m args below meth c 3 G A Q (wM ad G (snp T n mo) Hs Xt Tw Qs ((mN T l (mA T mo (fillF ke (-1) 128, fillF sp (nI 0) 128) l) nd).1, (mN T l (mA T mo (fillF ke (-1) 128, fillF sp (nI 0) 128) l) nd).2) Lo Wi) 0 0 43 [(2, .int (nI nd)), (1, .int (nI l)), (0, .ref (ad 0))] [] := by
                intro k_
                induction k_ with
                | zero => exact fun nd hk_ hm1 hm hll hlive => absurd hk_ (Nat.not_lt_zero _)
                | succ k_ ih43 =>
                  intro nd hk_43 hm1 hm hll hlive
                  refine v_iload_n F dX8_grows_43 2 rfl rfl ?_
                  refine v_sipush (v := nI 128) F dX8_grows_44 (by decide) ?_
                  refine v_icmp_ge F 111 dX8_grows_47 (by decide) (fun c3 => ?_) (fun c3 => ?_)
                  · replace c3 := nG (a := nd) (b := 128) (by omega) (by decide) c3
                    have hm9 : nd = 128 := by omega
                    subst hm9
                    have hlw := hlive (by omega)
                    refine v_iinc (lv' := [(1, .int (nI (l + 1))), (2, .int (nI 128)), (0, .ref (ad 0))]) F (nI (l + 1)) dX8_grows_111 rfl (nI_add l 1) (by decide) rfl ?_
                    refine v_goto F 31 dX8_grows_114 (by decide) ?_
                    refine v_w (w' := wM ad G (snp T n mo) Hs Xt Tw Qs ((mA T mo (fillF ke (-1) 128, fillF sp (nI 0) 128) (l + 1)).1, (mA T mo (fillF ke (-1) 128, fillF sp (nI 0) 128) (l + 1)).2) Lo Wi) (congrArg (fun z_ => wM ad G (snp T n mo) Hs Xt Tw Qs z_ Lo Wi) (show ((mN T l (mA T mo (fillF ke (-1) 128, fillF sp (nI 0) 128) l) 128).1, (mN T l (mA T mo (fillF ke (-1) 128, fillF sp (nI 0) 128) l) 128).2) = ((mA T mo (fillF ke (-1) 128, fillF sp (nI 0) 128) (l + 1)).1, (mA T mo (fillF ke (-1) 128, fillF sp (nI 0) 128) (l + 1)).2) by first | rfl | (rw [mA, if_pos hlw]; done) | (rw [mA, if_neg (ntb hlw), mN_1]; done))) ?_
                    refine v_st (w' := wM ad G (snp T n mo) Hs Xt Tw Qs ((mA T mo (fillF ke (-1) 128, fillF sp (nI 0) 128) (l + 1)).1, (mA T mo (fillF ke (-1) 128, fillF sp (nI 0) 128) (l + 1)).2) Lo Wi) (pc' := 31) (st' := []) rfl rfl rfl [0, 2] (lv' := [(1, .int (nI (l + 1))), (0, .ref (ad 0))]) rfl ?_
                    exact ih31 (l + 1) (by omega) (by omega)
                  · replace c3 := nGn (a := nd) (b := 128) (by omega) (by decide) c3
                    refine v_aload_n F dX8_grows_50 0 rfl rfl ?_
                    refine v_get (v := .ref (ad 1)) F inlX8 (ci := 8) rfl 0 (by decide) rfl wF_RX8_7 dX8_grows_51 0 rfl rfl ?_
                    refine v_iconst (v := nI 0) F dX8_grows_54 (by decide) ?_
                    refine v_ialdN F dX8_grows_55 1 rfl 0 rfl (by omega) (by decide) ((snp T n mo) 0) rfl ?_
                    refine v_topi (nI mo) rfl ?_
                    refine v_aload_n F dX8_grows_56 0 rfl rfl ?_
                    refine v_iload_n F dX8_grows_57 1 rfl rfl ?_
                    refine v_iconst (v := nI 4) F dX8_grows_58 (by decide) ?_
                    refine v_cVIF F cs_RX8_50 dX8_grows_59 0 (ci := 8) rfl rfl (m_X8_of lau G ad T n mo Hs Xt Tw Qs ((mN T l (mA T mo (fillF ke (-1) 128, fillF sp (nI 0) 128) l) nd).1, (mN T l (mA T mo (fillF ke (-1) 128, fillF sp (nI 0) 128) l) nd).2) Lo Wi l 4 (by omega) (by omega)) (by decide) rfl rfl (Nat.le_of_ble_eq_true rfl) ⟨Nat.zero_le _, Nat.zero_le _⟩ (fun r4 u5 w6 => ?_)
                    subst w6
                    refine v_aload_n F dX8_grows_62 0 rfl rfl ?_
                    refine v_iload_n F dX8_grows_63 1 rfl rfl ?_
                    refine v_iconst (v := nI 5) F dX8_grows_64 (by decide) ?_
                    refine v_cVIF F cs_RX8_50 dX8_grows_65 0 (ci := 8) rfl rfl (m_X8_of lau G ad T n mo Hs Xt Tw Qs ((mN T l (mA T mo (fillF ke (-1) 128, fillF sp (nI 0) 128) l) nd).1, (mN T l (mA T mo (fillF ke (-1) 128, fillF sp (nI 0) 128) l) nd).2) Lo Wi l 5 (by omega) (by omega)) (by decide) rfl rfl (Nat.le_of_ble_eq_true rfl) ⟨Nat.zero_le _, Nat.zero_le _⟩ (fun r7 u8 w9 => ?_)
                    subst w9
                    refine v_cSIE F cs_RX8_39 dX8_grows_68 (m_X8_in lau G (nI mo) (T ((l * 6) + 4)) (T ((l * 6) + 5)) ) (by decide) rfl rfl (Nat.le_of_ble_eq_true rfl) ⟨Nat.zero_le _, Nat.zero_le _⟩ (fun r10 u11 w12 => ?_)
                    subst w12
                    refine v_if_eq F 111 dX8_grows_71 (by decide) (fun hlv => ?_) (fun hlv => ?_)
                    · replace hlv := bI_f hlv
                      have hlw : lvB T l (nI mo) = false := hlv
                      have hnd : nd = 1 := by
                        rcases Nat.lt_or_ge 1 nd with q | q
                        · rw [hlive q] at hlw; cases hlw
                        · omega
                      subst hnd
                      refine v_iinc (lv' := [(1, .int (nI (l + 1))), (2, .int (nI 1)), (0, .ref (ad 0))]) F (nI (l + 1)) dX8_grows_111 rfl (nI_add l 1) (by decide) rfl ?_
                      refine v_goto F 31 dX8_grows_114 (by decide) ?_
                      refine v_w (w' := wM ad G (snp T n mo) Hs Xt Tw Qs ((mA T mo (fillF ke (-1) 128, fillF sp (nI 0) 128) (l + 1)).1, (mA T mo (fillF ke (-1) 128, fillF sp (nI 0) 128) (l + 1)).2) Lo Wi) (congrArg (fun z_ => wM ad G (snp T n mo) Hs Xt Tw Qs z_ Lo Wi) (show ((mN T l (mA T mo (fillF ke (-1) 128, fillF sp (nI 0) 128) l) 1).1, (mN T l (mA T mo (fillF ke (-1) 128, fillF sp (nI 0) 128) l) 1).2) = ((mA T mo (fillF ke (-1) 128, fillF sp (nI 0) 128) (l + 1)).1, (mA T mo (fillF ke (-1) 128, fillF sp (nI 0) 128) (l + 1)).2) by first | rfl | (rw [mA, if_pos hlw]; done) | (rw [mA, if_neg (ntb hlw), mN_1]; done))) ?_
                      refine v_st (w' := wM ad G (snp T n mo) Hs Xt Tw Qs ((mA T mo (fillF ke (-1) 128, fillF sp (nI 0) 128) (l + 1)).1, (mA T mo (fillF ke (-1) 128, fillF sp (nI 0) 128) (l + 1)).2) Lo Wi) (pc' := 31) (st' := []) rfl rfl rfl [0, 2] (lv' := [(1, .int (nI (l + 1))), (0, .ref (ad 0))]) rfl ?_
                      exact ih31 (l + 1) (by omega) (by omega)
                    · replace hlv := bI_t hlv
                      have hlw : lvB T l (nI mo) = true := hlv
                      refine v_aload_n F dX8_grows_74 0 rfl rfl ?_
                      refine v_iload_n F dX8_grows_75 1 rfl rfl ?_
                      refine v_iload_n F dX8_grows_76 2 rfl rfl ?_
                      refine v_cVIF F cs_RX8_114 dX8_grows_77 0 (ci := 8) rfl rfl (m_X8_hasAll lau G ad T n mo Hs Xt Tw Qs ((mN T l (mA T mo (fillF ke (-1) 128, fillF sp (nI 0) 128) l) nd).1, (mN T l (mA T mo (fillF ke (-1) 128, fillF sp (nI 0) 128) l) nd).2) Lo Wi l nd (by omega) (by omega) (by omega)) (by decide) rfl rfl (Nat.le_of_ble_eq_true rfl) ⟨Nat.zero_le _, Nat.zero_le _⟩ (fun r13 u14 w15 => ?_)
                      subst w15
                      refine v_if_eq F 105 dX8_grows_80 (by decide) (fun ha1 => ?_) (fun ha1 => ?_)
                      · replace ha1 := bI_f ha1
                        refine v_iinc (lv' := [(2, .int (nI (nd + 1))), (1, .int (nI l)), (0, .ref (ad 0))]) F (nI (nd + 1)) dX8_grows_105 rfl (nI_add nd 1) (by decide) rfl ?_
                        refine v_goto F 43 dX8_grows_108 (by decide) ?_
                        refine v_w (w' := wM ad G (snp T n mo) Hs Xt Tw Qs ((mN T l (mA T mo (fillF ke (-1) 128, fillF sp (nI 0) 128) l) (nd + 1)).1, (mN T l (mA T mo (fillF ke (-1) 128, fillF sp (nI 0) 128) l) (nd + 1)).2) Lo Wi) (congrArg (fun z_ => wM ad G (snp T n mo) Hs Xt Tw Qs z_ Lo Wi) (show ((mN T l (mA T mo (fillF ke (-1) 128, fillF sp (nI 0) 128) l) nd).1, (mN T l (mA T mo (fillF ke (-1) 128, fillF sp (nI 0) 128) l) nd).2) = ((mN T l (mA T mo (fillF ke (-1) 128, fillF sp (nI 0) 128) l) (nd + 1)).1, (mN T l (mA T mo (fillF ke (-1) 128, fillF sp (nI 0) 128) l) (nd + 1)).2) by first | rfl | (rw [← mN_y (by omega) ha1 (Or.inl ha2)]; done) | (rw [← mN_y (by omega) ha1 (Or.inr ha3)]; done) | (rw [← mN_x ha1]; done) | (rw [← mN_z ha2 ha3]; done))) ?_
                        refine v_st (w' := wM ad G (snp T n mo) Hs Xt Tw Qs ((mN T l (mA T mo (fillF ke (-1) 128, fillF sp (nI 0) 128) l) (nd + 1)).1, (mN T l (mA T mo (fillF ke (-1) 128, fillF sp (nI 0) 128) l) (nd + 1)).2) Lo Wi) (pc' := 43) (st' := []) rfl rfl rfl [0, 1, 2] (lv' := [(2, .int (nI (nd + 1))), (1, .int (nI l)), (0, .ref (ad 0))]) rfl ?_
                        exact ih43 (nd + 1) (by omega) (by omega) (by omega) (by omega) (fun _ => hlw)
                      · replace ha1 := bI_t ha1
                        refine v_iload_n F dX8_grows_83 2 rfl rfl ?_
                        refine v_iconst (v := nI 1) F dX8_grows_84 (by decide) ?_
                        refine v_icmp_eq F 99 dX8_grows_85 (by decide) (fun ha2 => ?_) (fun ha2 => ?_)
                        · replace ha2 := nE (a := nd) (b := 1) (by omega) (by decide) ha2
                          refine v_aload_n F dX8_grows_99 0 rfl rfl ?_
                          refine v_iload_n F dX8_grows_100 1 rfl rfl ?_
                          refine v_iload_n F dX8_grows_101 2 rfl rfl ?_
                          refine v_cVVF F cs_RX8_118 dX8_grows_102 0 (ci := 8) rfl rfl (m_X8_goesDown lau G ad T n mo Hs Xt Tw Qs ((mN T l (mA T mo (fillF ke (-1) 128, fillF sp (nI 0) 128) l) nd).1) ((mN T l (mA T mo (fillF ke (-1) 128, fillF sp (nI 0) 128) l) nd).2) Lo Wi l nd (by omega) (by omega) (by omega) (by omega) ((mN_inv hn hll (mA_inv hn hT (by omega)).1 (mA_inv hn hT (by omega)).2 _ (by omega)).1)) (by decide) rfl rfl (Nat.le_of_ble_eq_true rfl) ⟨Nat.zero_le _, Nat.zero_le _⟩ (fun u17 w18 => ?_)
                          refine v_iinc (lv' := [(2, .int (nI (nd + 1))), (1, .int (nI l)), (0, .ref (ad 0))]) F (nI (nd + 1)) dX8_grows_105 rfl (nI_add nd 1) (by decide) rfl ?_
                          refine v_goto F 43 dX8_grows_108 (by decide) ?_
                          refine v_w (w' := wM ad G (snp T n mo) Hs Xt Tw Qs ((mN T l (mA T mo (fillF ke (-1) 128, fillF sp (nI 0) 128) l) (nd + 1)).1, (mN T l (mA T mo (fillF ke (-1) 128, fillF sp (nI 0) 128) l) (nd + 1)).2) Lo Wi) (congrArg (fun z_ => wM ad G (snp T n mo) Hs Xt Tw Qs z_ Lo Wi) (show ((gd T 8 l nd (((mN T l (mA T mo (fillF ke (-1) 128, fillF sp (nI 0) 128) l) nd).1), ((mN T l (mA T mo (fillF ke (-1) 128, fillF sp (nI 0) 128) l) nd).2))).1, (gd T 8 l nd (((mN T l (mA T mo (fillF ke (-1) 128, fillF sp (nI 0) 128) l) nd).1), ((mN T l (mA T mo (fillF ke (-1) 128, fillF sp (nI 0) 128) l) nd).2))).2) = ((mN T l (mA T mo (fillF ke (-1) 128, fillF sp (nI 0) 128) l) (nd + 1)).1, (mN T l (mA T mo (fillF ke (-1) 128, fillF sp (nI 0) 128) l) (nd + 1)).2) by first | rfl | (rw [← mN_y (by omega) ha1 (Or.inl ha2)]; done) | (rw [← mN_y (by omega) ha1 (Or.inr ha3)]; done) | (rw [← mN_x ha1]; done) | (rw [← mN_z ha2 ha3]; done))) ?_
                          refine v_st (w' := wM ad G (snp T n mo) Hs Xt Tw Qs ((mN T l (mA T mo (fillF ke (-1) 128, fillF sp (nI 0) 128) l) (nd + 1)).1, (mN T l (mA T mo (fillF ke (-1) 128, fillF sp (nI 0) 128) l) (nd + 1)).2) Lo Wi) (pc' := 43) (st' := []) rfl rfl rfl [0, 1, 2] (lv' := [(2, .int (nI (nd + 1))), (1, .int (nI l)), (0, .ref (ad 0))]) rfl ?_
                          exact ih43 (nd + 1) (by omega) (by omega) (by omega) (by omega) (fun _ => hlw)
                        · replace ha2 := nEn (a := nd) (b := 1) (by omega) (by decide) ha2
                          refine v_aload_n F dX8_grows_88 0 rfl rfl ?_
                          refine v_iload_n F dX8_grows_89 1 rfl rfl ?_
                          refine v_iload_n F dX8_grows_90 2 rfl rfl ?_
                          refine v_iconst (v := nI 2) F dX8_grows_91 (by decide) ?_
                          refine v_idiv F dX8_grows_92 (by decide) ?_
                          refine v_topi (nI (nd / 2)) (pk_div (by omega) (by decide) (by decide)) ?_
                          refine v_cVIF F cs_RX8_114 dX8_grows_93 0 (ci := 8) rfl rfl (m_X8_hasAll lau G ad T n mo Hs Xt Tw Qs ((mN T l (mA T mo (fillF ke (-1) 128, fillF sp (nI 0) 128) l) nd).1, (mN T l (mA T mo (fillF ke (-1) 128, fillF sp (nI 0) 128) l) nd).2) Lo Wi l (nd / 2) (by omega) (by omega) (by omega)) (by decide) rfl rfl (Nat.le_of_ble_eq_true rfl) ⟨Nat.zero_le _, Nat.zero_le _⟩ (fun r19 u20 w21 => ?_)
                          subst w21
                          refine v_if_ne F 105 dX8_grows_96 (by decide) (fun ha3 => ?_) (fun ha3 => ?_)
                          · replace ha3 := bI_t ha3
                            refine v_iinc (lv' := [(2, .int (nI (nd + 1))), (1, .int (nI l)), (0, .ref (ad 0))]) F (nI (nd + 1)) dX8_grows_105 rfl (nI_add nd 1) (by decide) rfl ?_
                            refine v_goto F 43 dX8_grows_108 (by decide) ?_
                            refine v_w (w' := wM ad G (snp T n mo) Hs Xt Tw Qs ((mN T l (mA T mo (fillF ke (-1) 128, fillF sp (nI 0) 128) l) (nd + 1)).1, (mN T l (mA T mo (fillF ke (-1) 128, fillF sp (nI 0) 128) l) (nd + 1)).2) Lo Wi) (congrArg (fun z_ => wM ad G (snp T n mo) Hs Xt Tw Qs z_ Lo Wi) (show ((mN T l (mA T mo (fillF ke (-1) 128, fillF sp (nI 0) 128) l) nd).1, (mN T l (mA T mo (fillF ke (-1) 128, fillF sp (nI 0) 128) l) nd).2) = ((mN T l (mA T mo (fillF ke (-1) 128, fillF sp (nI 0) 128) l) (nd + 1)).1, (mN T l (mA T mo (fillF ke (-1) 128, fillF sp (nI 0) 128) l) (nd + 1)).2) by first | rfl | (rw [← mN_y (by omega) ha1 (Or.inl ha2)]; done) | (rw [← mN_y (by omega) ha1 (Or.inr ha3)]; done) | (rw [← mN_x ha1]; done) | (rw [← mN_z ha2 ha3]; done))) ?_
                            refine v_st (w' := wM ad G (snp T n mo) Hs Xt Tw Qs ((mN T l (mA T mo (fillF ke (-1) 128, fillF sp (nI 0) 128) l) (nd + 1)).1, (mN T l (mA T mo (fillF ke (-1) 128, fillF sp (nI 0) 128) l) (nd + 1)).2) Lo Wi) (pc' := 43) (st' := []) rfl rfl rfl [0, 1, 2] (lv' := [(2, .int (nI (nd + 1))), (1, .int (nI l)), (0, .ref (ad 0))]) rfl ?_
                            exact ih43 (nd + 1) (by omega) (by omega) (by omega) (by omega) (fun _ => hlw)
                          · replace ha3 := bI_f ha3
                            refine v_aload_n F dX8_grows_99 0 rfl rfl ?_
                            refine v_iload_n F dX8_grows_100 1 rfl rfl ?_
                            refine v_iload_n F dX8_grows_101 2 rfl rfl ?_
                            refine v_cVVF F cs_RX8_118 dX8_grows_102 0 (ci := 8) rfl rfl (m_X8_goesDown lau G ad T n mo Hs Xt Tw Qs ((mN T l (mA T mo (fillF ke (-1) 128, fillF sp (nI 0) 128) l) nd).1) ((mN T l (mA T mo (fillF ke (-1) 128, fillF sp (nI 0) 128) l) nd).2) Lo Wi l nd (by omega) (by omega) (by omega) (by omega) ((mN_inv hn hll (mA_inv hn hT (by omega)).1 (mA_inv hn hT (by omega)).2 _ (by omega)).1)) (by decide) rfl rfl (Nat.le_of_ble_eq_true rfl) ⟨Nat.zero_le _, Nat.zero_le _⟩ (fun u23 w24 => ?_)
                            refine v_iinc (lv' := [(2, .int (nI (nd + 1))), (1, .int (nI l)), (0, .ref (ad 0))]) F (nI (nd + 1)) dX8_grows_105 rfl (nI_add nd 1) (by decide) rfl ?_
                            refine v_goto F 43 dX8_grows_108 (by decide) ?_
                            refine v_w (w' := wM ad G (snp T n mo) Hs Xt Tw Qs ((mN T l (mA T mo (fillF ke (-1) 128, fillF sp (nI 0) 128) l) (nd + 1)).1, (mN T l (mA T mo (fillF ke (-1) 128, fillF sp (nI 0) 128) l) (nd + 1)).2) Lo Wi) (congrArg (fun z_ => wM ad G (snp T n mo) Hs Xt Tw Qs z_ Lo Wi) (show ((gd T 8 l nd (((mN T l (mA T mo (fillF ke (-1) 128, fillF sp (nI 0) 128) l) nd).1), ((mN T l (mA T mo (fillF ke (-1) 128, fillF sp (nI 0) 128) l) nd).2))).1, (gd T 8 l nd (((mN T l (mA T mo (fillF ke (-1) 128, fillF sp (nI 0) 128) l) nd).1), ((mN T l (mA T mo (fillF ke (-1) 128, fillF sp (nI 0) 128) l) nd).2))).2) = ((mN T l (mA T mo (fillF ke (-1) 128, fillF sp (nI 0) 128) l) (nd + 1)).1, (mN T l (mA T mo (fillF ke (-1) 128, fillF sp (nI 0) 128) l) (nd + 1)).2) by first | rfl | (rw [← mN_y (by omega) ha1 (Or.inl ha2)]; done) | (rw [← mN_y (by omega) ha1 (Or.inr ha3)]; done) | (rw [← mN_x ha1]; done) | (rw [← mN_z ha2 ha3]; done))) ?_
                            refine v_st (w' := wM ad G (snp T n mo) Hs Xt Tw Qs ((mN T l (mA T mo (fillF ke (-1) 128, fillF sp (nI 0) 128) l) (nd + 1)).1, (mN T l (mA T mo (fillF ke (-1) 128, fillF sp (nI 0) 128) l) (nd + 1)).2) Lo Wi) (pc' := 43) (st' := []) rfl rfl rfl [0, 1, 2] (lv' := [(2, .int (nI (nd + 1))), (1, .int (nI l)), (0, .ref (ad 0))]) rfl ?_
                            exact ih43 (nd + 1) (by omega) (by omega) (by omega) (by omega) (fun _ => hlw)
              refine v_w (w' := wM ad G (snp T n mo) Hs Xt Tw Qs ((mN T l (mA T mo (fillF ke (-1) 128, fillF sp (nI 0) 128) l) 1).1, (mN T l (mA T mo (fillF ke (-1) 128, fillF sp (nI 0) 128) l) 1).2) Lo Wi) (congrArg (fun z_ => wM ad G (snp T n mo) Hs Xt Tw Qs z_ Lo Wi) (show ((mA T mo (fillF ke (-1) 128, fillF sp (nI 0) 128) l).1, (mA T mo (fillF ke (-1) 128, fillF sp (nI 0) 128) l).2) = ((mN T l (mA T mo (fillF ke (-1) 128, fillF sp (nI 0) 128) l) 1).1, (mN T l (mA T mo (fillF ke (-1) 128, fillF sp (nI 0) 128) l) 1).2) by first | rfl | (rw [← mN_y (by omega) ha1 (Or.inl ha2)]; done) | (rw [← mN_y (by omega) ha1 (Or.inr ha3)]; done) | (rw [← mN_x ha1]; done) | (rw [← mN_z ha2 ha3]; done))) ?_
              refine v_st (w' := wM ad G (snp T n mo) Hs Xt Tw Qs ((mN T l (mA T mo (fillF ke (-1) 128, fillF sp (nI 0) 128) l) 1).1, (mN T l (mA T mo (fillF ke (-1) 128, fillF sp (nI 0) 128) l) 1).2) Lo Wi) (pc' := 43) (st' := []) rfl rfl rfl [0, 1, 2] (lv' := [(2, .int (nI 1)), (1, .int (nI l)), (0, .ref (ad 0))]) rfl ?_
              exact L43 _ 1 (Nat.lt_succ_self _) (by omega) (by omega) (by omega) (fun q => absurd q (by omega))
        refine v_w (w' := wM ad G (snp T n mo) Hs Xt Tw Qs ((mA T mo (fillF ke (-1) 128, fillF sp (nI 0) 128) 0).1, (mA T mo (fillF ke (-1) 128, fillF sp (nI 0) 128) 0).2) Lo Wi) (congrArg (fun z_ => wM ad G (snp T n mo) Hs Xt Tw Qs z_ Lo Wi) (show (fillF ke (-1) 128, fillF sp (nI 0) 128) = ((mA T mo (fillF ke (-1) 128, fillF sp (nI 0) 128) 0).1, (mA T mo (fillF ke (-1) 128, fillF sp (nI 0) 128) 0).2) by first | rfl | (rw [mA, if_pos hlw]; done) | (rw [mA, if_neg (ntb hlw), mN_1]; done))) ?_
        refine v_st (w' := wM ad G (snp T n mo) Hs Xt Tw Qs ((mA T mo (fillF ke (-1) 128, fillF sp (nI 0) 128) 0).1, (mA T mo (fillF ke (-1) 128, fillF sp (nI 0) 128) 0).2) Lo Wi) (pc' := 31) (st' := []) rfl rfl rfl [0, 1] (lv' := [(1, .int (nI 0)), (0, .ref (ad 0))]) rfl ?_
        exact L31 _ 0 (Nat.lt_succ_self _) (by omega)
      · replace c1 := nGn (a := i) (b := 128) (by omega) (by decide) c1
        refine v_aload_n F dX8_grows_9 0 rfl rfl ?_
        refine v_get (v := .ref (ad 5)) F inlX8 (ci := 8) rfl 11 (by decide) rfl wF_RX8_22 dX8_grows_10 0 rfl rfl ?_
        refine v_iload_n F dX8_grows_13 1 rfl rfl ?_
        refine v_iconst (v := (-1)) F dX8_grows_14 (by decide) ?_
        refine v_iastN F dX8_grows_15 5 rfl i rfl (by omega) (by decide) (wM ad G (snp T n mo) Hs Xt Tw Qs (upd (fillF ke (-1) i) i (-1), fillF sp (nI 0) i) Lo Wi) rfl ?_
        refine v_aload_n F dX8_grows_16 0 rfl rfl ?_
        refine v_get (v := .ref (ad 6)) F inlX8 (ci := 8) rfl 12 (by decide) rfl wF_RX8_25 dX8_grows_17 0 rfl rfl ?_
        refine v_iload_n F dX8_grows_20 1 rfl rfl ?_
        refine v_iconst (v := nI 0) F dX8_grows_21 (by decide) ?_
        refine v_iastN F dX8_grows_22 6 rfl i rfl (by omega) (by decide) (wM ad G (snp T n mo) Hs Xt Tw Qs (upd (fillF ke (-1) i) i (-1), upd (fillF sp (nI 0) i) i (nI 0)) Lo Wi) rfl ?_
        refine v_iinc (lv' := [(1, .int (nI (i + 1))), (0, .ref (ad 0))]) F (nI (i + 1)) dX8_grows_23 rfl (nI_add i 1) (by decide) rfl ?_
        refine v_goto F 2 dX8_grows_26 (by decide) ?_
        refine v_w (w' := wM ad G (snp T n mo) Hs Xt Tw Qs (fillF ke (-1) (i + 1), fillF sp (nI 0) (i + 1)) Lo Wi) (congrArg (fun z_ => wM ad G (snp T n mo) Hs Xt Tw Qs z_ Lo Wi) (show (upd (fillF ke (-1) i) i (-1), upd (fillF sp (nI 0) i) i (nI 0)) = (fillF ke (-1) (i + 1), fillF sp (nI 0) (i + 1)) by first | rw [← fillF_0, ← fillF_0] | rw [fillF_s, fillF_s])) ?_
        refine v_st (w' := wM ad G (snp T n mo) Hs Xt Tw Qs (fillF ke (-1) (i + 1), fillF sp (nI 0) (i + 1)) Lo Wi) (pc' := 2) (st' := []) rfl rfl rfl [0, 1] (lv' := [(1, .int (nI (i + 1))), (0, .ref (ad 0))]) rfl ?_
        exact ih2 (i + 1) (by omega) (by omega)
  refine v_w (w' := wM ad G (snp T n mo) Hs Xt Tw Qs (fillF ke (-1) 0, fillF sp (nI 0) 0) Lo Wi) (congrArg (fun z_ => wM ad G (snp T n mo) Hs Xt Tw Qs z_ Lo Wi) (show (ke, sp) = (fillF ke (-1) 0, fillF sp (nI 0) 0) by first | rw [← fillF_0, ← fillF_0] | rw [fillF_s, fillF_s])) ?_
  refine v_st (w' := wM ad G (snp T n mo) Hs Xt Tw Qs (fillF ke (-1) 0, fillF sp (nI 0) 0) Lo Wi) (pc' := 2) (st' := []) rfl rfl rfl [0, 1] (lv' := [(1, .int (nI 0)), (0, .ref (ad 0))]) rfl ?_
  exact L2 _ 0 (Nat.lt_succ_self _) (by omega)
