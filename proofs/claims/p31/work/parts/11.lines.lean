set_option maxHeartbeats 4000000 in
set_option maxRecDepth 100000 in
theorem m_X1_size (lau : Launch) (G : GT) (ad : Nat → Nat) (T : Nat → Int32) (n mo ver : Nat) (Hs : HT) (P : PT) (Tr : TT) (Rg : RT) (Tx : XT) (Rd : DT) : MI lau G 0 yX1_size cX1_size 1 (some .int) [.ref (ad 1)] (wC ad G (T, n, mo, ver) Hs P Tr Rg Tx Rd) (fun u : Unit => wC ad G (T, n, mo, ver) Hs P Tr Rg Tx Rd) (fun r u => r = nI n) := by
  refine mi_of (by decide +kernel) (Nat.le_of_ble_eq_true rfl) ?_
  intro p e s m args below meth c A Q F hr hlk hQ
  refine v_st (w' := wC ad G (T, n, mo, ver) Hs P Tr Rg Tx Rd) (pc' := 0) (st' := []) rfl rfl rfl [0] (lv' := [(0, .ref (ad 1))]) rfl ?_
  refine v_aload_n F dX1_size_0 0 rfl rfl ?_
  refine v_get (v := .int (nI n)) F inlX1 (ci := 1) rfl 1 (by decide) rfl wF_RX1_15 dX1_size_1 1 rfl rfl ?_
  exact v_iret F hr hlk hQ dX1_size_4 (()) rfl (by first | rfl | (simp; done))
set_option maxHeartbeats 4000000 in
set_option maxRecDepth 100000 in
theorem m_X1_moment (lau : Launch) (G : GT) (ad : Nat → Nat) (T : Nat → Int32) (n mo ver : Nat) (Hs : HT) (P : PT) (Tr : TT) (Rg : RT) (Tx : XT) (Rd : DT) : MI lau G 0 yX1_moment cX1_moment 1 (some .int) [.ref (ad 1)] (wC ad G (T, n, mo, ver) Hs P Tr Rg Tx Rd) (fun u : Unit => wC ad G (T, n, mo, ver) Hs P Tr Rg Tx Rd) (fun r u => r = nI mo) := by
  refine mi_of (by decide +kernel) (Nat.le_of_ble_eq_true rfl) ?_
  intro p e s m args below meth c A Q F hr hlk hQ
  refine v_st (w' := wC ad G (T, n, mo, ver) Hs P Tr Rg Tx Rd) (pc' := 0) (st' := []) rfl rfl rfl [0] (lv' := [(0, .ref (ad 1))]) rfl ?_
  refine v_aload_n F dX1_moment_0 0 rfl rfl ?_
  refine v_get (v := .int (nI mo)) F inlX1 (ci := 1) rfl 2 (by decide) rfl wF_RX1_19 dX1_moment_1 1 rfl rfl ?_
  exact v_iret F hr hlk hQ dX1_moment_4 (()) rfl (by first | rfl | (simp; done))
set_option maxHeartbeats 4000000 in
set_option maxRecDepth 100000 in
theorem m_X1_version (lau : Launch) (G : GT) (ad : Nat → Nat) (T : Nat → Int32) (n mo ver : Nat) (Hs : HT) (P : PT) (Tr : TT) (Rg : RT) (Tx : XT) (Rd : DT) : MI lau G 0 yX1_version cX1_version 1 (some .int) [.ref (ad 1)] (wC ad G (T, n, mo, ver) Hs P Tr Rg Tx Rd) (fun u : Unit => wC ad G (T, n, mo, ver) Hs P Tr Rg Tx Rd) (fun r u => r = nI ver) := by
  refine mi_of (by decide +kernel) (Nat.le_of_ble_eq_true rfl) ?_
  intro p e s m args below meth c A Q F hr hlk hQ
  refine v_st (w' := wC ad G (T, n, mo, ver) Hs P Tr Rg Tx Rd) (pc' := 0) (st' := []) rfl rfl rfl [0] (lv' := [(0, .ref (ad 1))]) rfl ?_
  refine v_aload_n F dX1_version_0 0 rfl rfl ?_
  refine v_get (v := .int (nI ver)) F inlX1 (ci := 1) rfl 3 (by decide) rfl wF_RX1_22 dX1_version_1 1 rfl rfl ?_
  exact v_iret F hr hlk hQ dX1_version_4 (()) rfl (by first | rfl | (simp; done))
set_option maxHeartbeats 4000000 in
set_option maxRecDepth 100000 in
theorem m_X1_has (lau : Launch) (G : GT) (ad : Nat → Nat) (T : Nat → Int32) (n mo ver : Nat) (Hs : HT) (P : PT) (Tr : TT) (Rg : RT) (Tx : XT) (Rd : DT) (line : Int32) : MI lau G 0 yX1_has cX1_has 2 (some .boolean) [.ref (ad 1), .int line] (wC ad G (T, n, mo, ver) Hs P Tr Rg Tx Rd) (fun u : Unit => wC ad G (T, n, mo, ver) Hs P Tr Rg Tx Rd) (fun r u => r = bI (hasB n line)) := by
  refine mi_of (by decide +kernel) (Nat.le_of_ble_eq_true rfl) ?_
  intro p e s m args below meth c A Q F hr hlk hQ
  refine v_st (w' := wC ad G (T, n, mo, ver) Hs P Tr Rg Tx Rd) (pc' := 0) (st' := []) rfl rfl rfl [0, 1] (lv' := [(0, .ref (ad 1)), (1, .int line)]) rfl ?_
  refine v_iload_n F dX1_has_0 1 rfl rfl ?_
  refine v_if_lt F 16 dX1_has_1 (by decide) (fun c1 => ?_) (fun c1 => ?_)
  · refine v_iconst (v := nI 0) F dX1_has_16 (by decide) ?_
    exact v_zret F hr hlk hQ rfl dX1_has_17 (()) rfl (by first | exact hasB_a (by assumption) | exact hasB_c (by assumption) (by assumption) | exact hasB_b (by assumption))
  · refine v_iload_n F dX1_has_4 1 rfl rfl ?_
    refine v_aload_n F dX1_has_5 0 rfl rfl ?_
    refine v_get (v := .int (nI n)) F inlX1 (ci := 1) rfl 1 (by decide) rfl wF_RX1_15 dX1_has_6 1 rfl rfl ?_
    refine v_icmp_ge F 16 dX1_has_9 (by decide) (fun c2 => ?_) (fun c2 => ?_)
    · refine v_iconst (v := nI 0) F dX1_has_16 (by decide) ?_
      exact v_zret F hr hlk hQ rfl dX1_has_17 (()) rfl (by first | exact hasB_a (by assumption) | exact hasB_c (by assumption) (by assumption) | exact hasB_b (by assumption))
    · refine v_iconst (v := nI 1) F dX1_has_12 (by decide) ?_
      refine v_goto F 17 dX1_has_13 (by decide) ?_
      exact v_zret F hr hlk hQ rfl dX1_has_17 (()) rfl (by first | exact hasB_a (by assumption) | exact hasB_c (by assumption) (by assumption) | exact hasB_b (by assumption))
set_option maxHeartbeats 4000000 in
set_option maxRecDepth 100000 in
theorem m_X1_property (lau : Launch) (G : GT) (ad : Nat → Nat) (T : Nat → Int32) (n mo ver : Nat) (Hs : HT) (P : PT) (Tr : TT) (Rg : RT) (Tx : XT) (Rd : DT) (l k : Nat) (hl : l < n) (hk : k < 6) (hn : n ≤ 20) : MI lau G 0 yX1_property cX1_property 3 (some .int) [.ref (ad 1), .int (nI l), .int (nI k)] (wC ad G (T, n, mo, ver) Hs P Tr Rg Tx Rd) (fun u : Unit => wC ad G (T, n, mo, ver) Hs P Tr Rg Tx Rd) (fun r u => r = (T ((l * 6) + k))) := by
  refine mi_of (by decide +kernel) (Nat.le_of_ble_eq_true rfl) ?_
  intro p e s m args below meth c A Q F hr hlk hQ
  refine v_st (w' := wC ad G (T, n, mo, ver) Hs P Tr Rg Tx Rd) (pc' := 0) (st' := []) rfl rfl rfl [0, 1, 2] (lv' := [(0, .ref (ad 1)), (1, .int (nI l)), (2, .int (nI k))]) rfl ?_
  refine v_iload_n F dX1_property_0 1 rfl rfl ?_
  refine v_if_lt F 22 dX1_property_1 (by decide) (fun c1 => ?_) (fun c1 => ?_)
  · replace c1 := nL (a := l) (b := 0) (by omega) (by decide) c1
    exact absurd c1 (Nat.not_lt_zero _)
  · replace c1 := nLn (a := l) (b := 0) (by omega) (by decide) c1
    refine v_iload_n F dX1_property_4 1 rfl rfl ?_
    refine v_aload_n F dX1_property_5 0 rfl rfl ?_
    refine v_get (v := .int (nI n)) F inlX1 (ci := 1) rfl 1 (by decide) rfl wF_RX1_15 dX1_property_6 1 rfl rfl ?_
    refine v_icmp_ge F 22 dX1_property_9 (by decide) (fun c2 => ?_) (fun c2 => ?_)
    · replace c2 := nG (a := l) (b := n) (by omega) (by omega) c2
      omega
    · replace c2 := nGn (a := l) (b := n) (by omega) (by omega) c2
      refine v_iload_n F dX1_property_12 2 rfl rfl ?_
      refine v_if_lt F 22 dX1_property_13 (by decide) (fun c3 => ?_) (fun c3 => ?_)
      · replace c3 := nL (a := k) (b := 0) (by omega) (by decide) c3
        exact absurd c3 (Nat.not_lt_zero _)
      · replace c3 := nLn (a := k) (b := 0) (by omega) (by decide) c3
        refine v_iload_n F dX1_property_16 2 rfl rfl ?_
        refine v_bipush (v := nI 6) F dX1_property_17 (by decide) ?_
        refine v_icmp_lt F 24 dX1_property_19 (by decide) (fun c4 => ?_) (fun c4 => ?_)
        · replace c4 := nL (a := k) (b := 6) (by omega) (by decide) c4
          refine v_aload_n F dX1_property_24 0 rfl rfl ?_
          refine v_get (v := .ref (ad 8)) F inlX1 (ci := 1) rfl 0 (by decide) rfl wF_RX1_9 dX1_property_25 1 rfl rfl ?_
          refine v_iload_n F dX1_property_28 1 rfl rfl ?_
          refine v_bipush (v := nI 6) F dX1_property_29 (by decide) ?_
          refine v_imul F dX1_property_31 ?_
          refine v_topi (nI (l * 6)) (pk_mul l 6) ?_
          refine v_iload_n F dX1_property_32 2 rfl rfl ?_
          refine v_iadd F dX1_property_33 ?_
          refine v_topi (nI ((l * 6) + k)) (nI_add (l * 6) k) ?_
          refine v_ialdN F dX1_property_34 8 rfl ((l * 6) + k) rfl (by omega) (by decide) (T ((l * 6) + k)) rfl ?_
          exact v_iret F hr hlk hQ dX1_property_35 (()) rfl (by first | rfl | (simp; done))
        · replace c4 := nLn (a := k) (b := 6) (by omega) (by decide) c4
          omega
theorem cs_RX1_25 : CSV RX1 25 RX1 yX1_has cX1_has 2 (some .boolean) 1 := ⟨wC_yX1_has, wM_RX1_25, wIm_yX1_has, wSe_yX1_has, wI_RX1, by decide +kernel, by decide⟩
set_option maxHeartbeats 4000000 in
set_option maxRecDepth 100000 in
theorem m_X1_change (lau : Launch) (G : GT) (ad : Nat → Nat) (T : Nat → Int32) (n mo ver : Nat) (Hs : HT) (P : PT) (Tr : TT) (Rg : RT) (Tx : XT) (Rd : DT) (l k : Nat) (x : Int32) (hl : l < n) (hk : k < 6) (hn : n ≤ 20) : MV lau G 1 yX1_change cX1_change 4 none [.ref (ad 1), .int (nI l), .int (nI k), .int x] (wC ad G (T, n, mo, ver) Hs P Tr Rg Tx Rd) (fun u : Unit => wC ad G (upd T ((l * 6) + k) x, n, mo, ver + 1) Hs P Tr Rg Tx Rd) (fun u => True) := by
  refine mv_of (by decide +kernel) (Nat.le_of_ble_eq_true rfl) ?_
  intro p e s m args below meth c A Q F hr hlk hQ
  refine v_st (w' := wC ad G (T, n, mo, ver) Hs P Tr Rg Tx Rd) (pc' := 0) (st' := []) rfl rfl rfl [0, 1, 2, 3] (lv' := [(0, .ref (ad 1)), (1, .int (nI l)), (2, .int (nI k)), (3, .int x)]) rfl ?_
  refine v_aload_n F dX1_change_0 0 rfl rfl ?_
  refine v_iload_n F dX1_change_1 1 rfl rfl ?_
  refine v_cVIF F cs_RX1_25 dX1_change_2 1 (ci := 1) rfl rfl (m_X1_has lau G ad T n mo ver Hs P Tr Rg Tx Rd (nI l) ) (by decide) rfl rfl (Nat.le_of_ble_eq_true rfl) ⟨Nat.zero_le _, Nat.zero_le _⟩ (fun r1 u2 w3 => ?_)
  subst w3
  refine v_topi (bI true) (hasB_t (by omega) (by omega)) ?_
  refine v_if_eq F 40 dX1_change_5 (by decide) (fun h => absurd h (by decide)) (fun _ => ?_)
  refine v_iload_n F dX1_change_8 2 rfl rfl ?_
  refine v_if_lt F 40 dX1_change_9 (by decide) (fun c4 => ?_) (fun c4 => ?_)
  · replace c4 := nL (a := k) (b := 0) (by omega) (by decide) c4
    exact absurd c4 (Nat.not_lt_zero _)
  · replace c4 := nLn (a := k) (b := 0) (by omega) (by decide) c4
    refine v_iload_n F dX1_change_12 2 rfl rfl ?_
    refine v_bipush (v := nI 6) F dX1_change_13 (by decide) ?_
    refine v_icmp_ge F 40 dX1_change_15 (by decide) (fun c5 => ?_) (fun c5 => ?_)
    · replace c5 := nG (a := k) (b := 6) (by omega) (by decide) c5
      omega
    · replace c5 := nGn (a := k) (b := 6) (by omega) (by decide) c5
      refine v_aload_n F dX1_change_18 0 rfl rfl ?_
      refine v_get (v := .ref (ad 8)) F inlX1 (ci := 1) rfl 0 (by decide) rfl wF_RX1_9 dX1_change_19 1 rfl rfl ?_
      refine v_iload_n F dX1_change_22 1 rfl rfl ?_
      refine v_bipush (v := nI 6) F dX1_change_23 (by decide) ?_
      refine v_imul F dX1_change_25 ?_
      refine v_topi (nI (l * 6)) (pk_mul l 6) ?_
      refine v_iload_n F dX1_change_26 2 rfl rfl ?_
      refine v_iadd F dX1_change_27 ?_
      refine v_topi (nI ((l * 6) + k)) (nI_add (l * 6) k) ?_
      refine v_iload_n F dX1_change_28 3 rfl rfl ?_
      refine v_iastN F dX1_change_29 8 rfl ((l * 6) + k) rfl (by omega) (by decide) (wC ad G (upd T ((l * 6) + k) x, n, mo, ver) Hs P Tr Rg Tx Rd) rfl ?_
      refine v_aload_n F dX1_change_30 0 rfl rfl ?_
      refine v_dup F dX1_change_31 rfl ?_
      refine v_get (v := .int (nI ver)) F inlX1 (ci := 1) rfl 3 (by decide) rfl wF_RX1_22 dX1_change_32 1 rfl rfl ?_
      refine v_iconst (v := nI 1) F dX1_change_35 (by decide) ?_
      refine v_iadd F dX1_change_36 ?_
      refine v_topi (nI (ver + 1)) (nI_add ver 1) ?_
      refine v_put F inlX1 (ci := 1) rfl tyX1 tyX1_ok nmX1 3 (by decide) rfl rfl wF_RX1_22 dX1_change_37 (ty := .int) (by decide +kernel) rfl rfl 1 rfl (Nat.le_of_ble_eq_true rfl) (wC ad G (upd T ((l * 6) + k) x, n, mo, ver + 1) Hs P Tr Rg Tx Rd) rfl ?_
      exact v_vret F hr hlk hQ dX1_change_40 (()) rfl (by trivial)
theorem cs_RX1_29 : CSV RX1 29 RX1 yX1_change cX1_change 4 none 3 := ⟨wC_yX1_change, wM_RX1_29, wIm_yX1_change, wSe_yX1_change, wI_RX1, by decide +kernel, by decide⟩
set_option maxHeartbeats 4000000 in
set_option maxRecDepth 100000 in
theorem m_X1_addLine (lau : Launch) (G : GT) (ad : Nat → Nat) (T : Nat → Int32) (n mo ver : Nat) (Hs : HT) (P : PT) (Tr : TT) (Rg : RT) (Tx : XT) (Rd : DT) (sl of fm lm : Int32) (hn : n < 20) : MV lau G 2 yX1_addLine cX1_addLine 6 none [.ref (ad 1), .int sl, .int of, .int fm, .int lm] (wC ad G (T, n, mo, ver) Hs P Tr Rg Tx Rd) (fun u : Unit => wC ad G (pAdd T n sl of fm lm, n + 1, mo, ver + 6) Hs P Tr Rg Tx Rd) (fun u => True) := by
  refine mv_of (by decide +kernel) (Nat.le_of_ble_eq_true rfl) ?_
  intro p e s m args below meth c A Q F hr hlk hQ
  refine v_st (w' := wC ad G (T, n, mo, ver) Hs P Tr Rg Tx Rd) (pc' := 0) (st' := []) rfl rfl rfl [0, 1, 2, 3, 4] (lv' := [(0, .ref (ad 1)), (1, .int sl), (2, .int of), (3, .int fm), (4, .int lm)]) rfl ?_
  refine v_aload_n F dX1_addLine_0 0 rfl rfl ?_
  refine v_get (v := .int (nI n)) F inlX1 (ci := 1) rfl 1 (by decide) rfl wF_RX1_15 dX1_addLine_1 1 rfl rfl ?_
  refine v_bipush (v := nI 20) F dX1_addLine_4 (by decide) ?_
  refine v_icmp_lt F 10 dX1_addLine_6 (by decide) (fun c1 => ?_) (fun c1 => ?_)
  · replace c1 := nL (a := n) (b := 20) (by omega) (by decide) c1
    refine v_aload_n F dX1_addLine_10 0 rfl rfl ?_
    refine v_get (v := .int (nI n)) F inlX1 (ci := 1) rfl 1 (by decide) rfl wF_RX1_15 dX1_addLine_11 1 rfl rfl ?_
    refine v_istore (lv' := [(5, .int (nI n)), (0, .ref (ad 1)), (1, .int sl), (2, .int of), (3, .int fm), (4, .int lm)]) F dX1_addLine_14 (by decide) rfl ?_
    refine v_aload_n F dX1_addLine_16 0 rfl rfl ?_
    refine v_dup F dX1_addLine_17 rfl ?_
    refine v_get (v := .int (nI n)) F inlX1 (ci := 1) rfl 1 (by decide) rfl wF_RX1_15 dX1_addLine_18 1 rfl rfl ?_
    refine v_iconst (v := nI 1) F dX1_addLine_21 (by decide) ?_
    refine v_iadd F dX1_addLine_22 ?_
    refine v_topi (nI (n + 1)) (nI_add n 1) ?_
    refine v_put F inlX1 (ci := 1) rfl tyX1 tyX1_ok nmX1 1 (by decide) rfl rfl wF_RX1_15 dX1_addLine_23 (ty := .int) (by decide +kernel) rfl rfl 1 rfl (Nat.le_of_ble_eq_true rfl) (wC ad G (T, n + 1, mo, ver) Hs P Tr Rg Tx Rd) rfl ?_
    refine v_aload_n F dX1_addLine_26 0 rfl rfl ?_
    refine v_iload F dX1_addLine_27 rfl ?_
    refine v_iconst (v := nI 0) F dX1_addLine_29 (by decide) ?_
    refine v_iload_n F dX1_addLine_30 1 rfl rfl ?_
    refine v_cVVF F cs_RX1_29 dX1_addLine_31 1 (ci := 1) rfl rfl (m_X1_change lau G ad T (n + 1) mo ver Hs P Tr Rg Tx Rd n 0 sl (by omega) (by omega) (by omega)) (by decide) rfl rfl (Nat.le_of_ble_eq_true rfl) ⟨Nat.zero_le _, Nat.zero_le _⟩ (fun u3 w4 => ?_)
    refine v_aload_n F dX1_addLine_34 0 rfl rfl ?_
    refine v_iload F dX1_addLine_35 rfl ?_
    refine v_iconst (v := nI 1) F dX1_addLine_37 (by decide) ?_
    refine v_iload_n F dX1_addLine_38 2 rfl rfl ?_
    refine v_cVVF F cs_RX1_29 dX1_addLine_39 1 (ci := 1) rfl rfl (m_X1_change lau G ad (upd T ((n * 6) + 0) sl) (n + 1) mo (ver + 1) Hs P Tr Rg Tx Rd n 1 of (by omega) (by omega) (by omega)) (by decide) rfl rfl (Nat.le_of_ble_eq_true rfl) ⟨Nat.zero_le _, Nat.zero_le _⟩ (fun u6 w7 => ?_)
    refine v_aload_n F dX1_addLine_42 0 rfl rfl ?_
    refine v_iload F dX1_addLine_43 rfl ?_
    refine v_iconst (v := nI 2) F dX1_addLine_45 (by decide) ?_
    refine v_iconst (v := nI 0) F dX1_addLine_46 (by decide) ?_
    refine v_cVVF F cs_RX1_29 dX1_addLine_47 1 (ci := 1) rfl rfl (m_X1_change lau G ad (upd (upd T ((n * 6) + 0) sl) ((n * 6) + 1) of) ((n + 1)) mo ((ver + 1) + 1) Hs P Tr Rg Tx Rd n 2 (nI 0) (by omega) (by omega) (by omega)) (by decide) rfl rfl (Nat.le_of_ble_eq_true rfl) ⟨Nat.zero_le _, Nat.zero_le _⟩ (fun u9 w10 => ?_)
    refine v_aload_n F dX1_addLine_50 0 rfl rfl ?_
    refine v_iload F dX1_addLine_51 rfl ?_
    refine v_iconst (v := nI 3) F dX1_addLine_53 (by decide) ?_
    refine v_bipush (v := nI 63) F dX1_addLine_54 (by decide) ?_
    refine v_cVVF F cs_RX1_29 dX1_addLine_56 1 (ci := 1) rfl rfl (m_X1_change lau G ad (upd (upd (upd T ((n * 6) + 0) sl) ((n * 6) + 1) of) ((n * 6) + 2) (nI 0)) (((n + 1))) mo (((ver + 1) + 1) + 1) Hs P Tr Rg Tx Rd n 3 (nI 63) (by omega) (by omega) (by omega)) (by decide) rfl rfl (Nat.le_of_ble_eq_true rfl) ⟨Nat.zero_le _, Nat.zero_le _⟩ (fun u12 w13 => ?_)
    refine v_aload_n F dX1_addLine_59 0 rfl rfl ?_
    refine v_iload F dX1_addLine_60 rfl ?_
    refine v_iconst (v := nI 4) F dX1_addLine_62 (by decide) ?_
    refine v_iload_n F dX1_addLine_63 3 rfl rfl ?_
    refine v_cVVF F cs_RX1_29 dX1_addLine_64 1 (ci := 1) rfl rfl (m_X1_change lau G ad (upd (upd (upd (upd T ((n * 6) + 0) sl) ((n * 6) + 1) of) ((n * 6) + 2) (nI 0)) ((n * 6) + 3) (nI 63)) ((((n + 1)))) mo ((((ver + 1) + 1) + 1) + 1) Hs P Tr Rg Tx Rd n 4 fm (by omega) (by omega) (by omega)) (by decide) rfl rfl (Nat.le_of_ble_eq_true rfl) ⟨Nat.zero_le _, Nat.zero_le _⟩ (fun u15 w16 => ?_)
    refine v_aload_n F dX1_addLine_67 0 rfl rfl ?_
    refine v_iload F dX1_addLine_68 rfl ?_
    refine v_iconst (v := nI 5) F dX1_addLine_70 (by decide) ?_
    refine v_iload F dX1_addLine_71 rfl ?_
    refine v_cVVF F cs_RX1_29 dX1_addLine_73 1 (ci := 1) rfl rfl (m_X1_change lau G ad (upd (upd (upd (upd (upd T ((n * 6) + 0) sl) ((n * 6) + 1) of) ((n * 6) + 2) (nI 0)) ((n * 6) + 3) (nI 63)) ((n * 6) + 4) fm) (((((n + 1))))) mo (((((ver + 1) + 1) + 1) + 1) + 1) Hs P Tr Rg Tx Rd n 5 lm (by omega) (by omega) (by omega)) (by decide) rfl rfl (Nat.le_of_ble_eq_true rfl) ⟨Nat.zero_le _, Nat.zero_le _⟩ (fun u18 w19 => ?_)
    refine v_w (w' := wC ad G (pAdd T n sl of fm lm, n + 1, mo, ver + 6) Hs P Tr Rg Tx Rd) (congrArg (fun z_ => wC ad G z_ Hs P Tr Rg Tx Rd) (show (upd (upd (upd (upd (upd (upd T ((n * 6) + 0) sl) ((n * 6) + 1) of) ((n * 6) + 2) (nI 0)) ((n * 6) + 3) (nI 63)) ((n * 6) + 4) fm) ((n * 6) + 5) lm, ((((((n + 1)))))), mo, (((((ver + 1) + 1) + 1) + 1) + 1) + 1) = (pAdd T n sl of fm lm, n + 1, mo, ver + 6) by rfl)) ?_
    exact v_vret F hr hlk hQ dX1_addLine_76 (()) rfl (by trivial)
  · replace c1 := nLn (a := n) (b := 20) (by omega) (by decide) c1
    omega
set_option maxHeartbeats 4000000 in
set_option maxRecDepth 100000 in
theorem m_X1_drop (lau : Launch) (G : GT) (ad : Nat → Nat) (T : Nat → Int32) (n mo ver : Nat) (Hs : HT) (P : PT) (Tr : TT) (Rg : RT) (Tx : XT) (Rd : DT) (l : Nat) (hl : l < n) (hn : n ≤ 20) : MV lau G 2 yX1_drop cX1_drop 3 none [.ref (ad 1), .int (nI l)] (wC ad G (T, n, mo, ver) Hs P Tr Rg Tx Rd) (fun u : Unit => wC ad G (pDrop T n l, n - 1, mo, ver + 1) Hs P Tr Rg Tx Rd) (fun u => True) := by
  refine mv_of (by decide +kernel) (Nat.le_of_ble_eq_true rfl) ?_
  intro p e s m args below meth c A Q F hr hlk hQ
  refine v_st (w' := wC ad G (T, n, mo, ver) Hs P Tr Rg Tx Rd) (pc' := 0) (st' := []) rfl rfl rfl [0, 1] (lv' := [(0, .ref (ad 1)), (1, .int (nI l))]) rfl ?_
  refine v_aload_n F dX1_drop_0 0 rfl rfl ?_
  refine v_iload_n F dX1_drop_1 1 rfl rfl ?_
  refine v_cVIF F cs_RX1_25 dX1_drop_2 1 (ci := 1) rfl rfl (m_X1_has lau G ad T n mo ver Hs P Tr Rg Tx Rd (nI l) ) (by decide) rfl rfl (Nat.le_of_ble_eq_true rfl) ⟨Nat.zero_le _, Nat.zero_le _⟩ (fun r1 u2 w3 => ?_)
  subst w3
  refine v_topi (bI true) (hasB_t (by omega) (by omega)) ?_
  refine v_if_ne F 9 dX1_drop_5 (by decide) (fun _ => ?_) (fun h => absurd h (by decide))
  refine v_iload_n F dX1_drop_9 1 rfl rfl ?_
  refine v_iconst (v := nI 1) F dX1_drop_10 (by decide) ?_
  refine v_iadd F dX1_drop_11 ?_
  refine v_topi (nI (l + 1)) (nI_add l 1) ?_
  refine v_bipush (v := nI 6) F dX1_drop_12 (by decide) ?_
  refine v_imul F dX1_drop_14 ?_
  refine v_topi (nI ((l + 1) * 6)) (pk_mul (l + 1) 6) ?_
  refine v_istore_n (lv' := [(2, .int (nI ((l + 1) * 6))), (0, .ref (ad 1)), (1, .int (nI l))]) F dX1_drop_15 2 rfl (by decide) rfl ?_
  refine v_aload_n F dX1_drop_16 0 rfl rfl ?_
  refine v_get (v := .ref (ad 8)) F inlX1 (ci := 1) rfl 0 (by decide) rfl wF_RX1_9 dX1_drop_17 1 rfl rfl ?_
  refine v_iload_n F dX1_drop_20 2 rfl rfl ?_
  refine v_aload_n F dX1_drop_21 0 rfl rfl ?_
  refine v_get (v := .ref (ad 8)) F inlX1 (ci := 1) rfl 0 (by decide) rfl wF_RX1_9 dX1_drop_22 1 rfl rfl ?_
  refine v_iload_n F dX1_drop_25 1 rfl rfl ?_
  refine v_bipush (v := nI 6) F dX1_drop_26 (by decide) ?_
  refine v_imul F dX1_drop_28 ?_
  refine v_topi (nI (l * 6)) (pk_mul l 6) ?_
  refine v_aload_n F dX1_drop_29 0 rfl rfl ?_
  refine v_get (v := .int (nI n)) F inlX1 (ci := 1) rfl 1 (by decide) rfl wF_RX1_15 dX1_drop_30 1 rfl rfl ?_
  refine v_bipush (v := nI 6) F dX1_drop_33 (by decide) ?_
  refine v_imul F dX1_drop_35 ?_
  refine v_topi (nI (n * 6)) (pk_mul n 6) ?_
  refine v_iload_n F dX1_drop_36 2 rfl rfl ?_
  refine v_isub F dX1_drop_37 ?_
  refine v_topi (nI ((n * 6) - ((l + 1) * 6))) (pk_sub (by omega)) ?_
  refine v_copyN F wM_RX1_33 wNa_arraycopyName wSt_arraycopyName wI_RJ10 dX1_drop_38 8 8 rfl rfl ((l + 1) * 6) (l * 6) ((n * 6) - ((l + 1) * 6)) rfl rfl rfl (by omega) (by omega) (by decide) (by decide) (by have := F.2.2.2.2.2.2.2.1; simp at this ⊢) (by have := F.2.2.2.2.2.2.2.2; simp [nativeFrameWords, Value.category] at this ⊢) (wC ad G (va_cpy T T ((l + 1) * 6) (l * 6) ((n * 6) - ((l + 1) * 6)), n, mo, ver) Hs P Tr Rg Tx Rd) rfl ?_
  refine v_aload_n F dX1_drop_41 0 rfl rfl ?_
  refine v_dup F dX1_drop_42 rfl ?_
  refine v_get (v := .int (nI n)) F inlX1 (ci := 1) rfl 1 (by decide) rfl wF_RX1_15 dX1_drop_43 1 rfl rfl ?_
  refine v_iconst (v := nI 1) F dX1_drop_46 (by decide) ?_
  refine v_isub F dX1_drop_47 ?_
  refine v_topi (nI (n - 1)) (pk_sub (by omega)) ?_
  refine v_put F inlX1 (ci := 1) rfl tyX1 tyX1_ok nmX1 1 (by decide) rfl rfl wF_RX1_15 dX1_drop_48 (ty := .int) (by decide +kernel) rfl rfl 1 rfl (Nat.le_of_ble_eq_true rfl) (wC ad G (va_cpy T T ((l + 1) * 6) (l * 6) ((n * 6) - ((l + 1) * 6)), n - 1, mo, ver) Hs P Tr Rg Tx Rd) rfl ?_
  refine v_aload_n F dX1_drop_51 0 rfl rfl ?_
  refine v_dup F dX1_drop_52 rfl ?_
  refine v_get (v := .int (nI ver)) F inlX1 (ci := 1) rfl 3 (by decide) rfl wF_RX1_22 dX1_drop_53 1 rfl rfl ?_
  refine v_iconst (v := nI 1) F dX1_drop_56 (by decide) ?_
  refine v_iadd F dX1_drop_57 ?_
  refine v_topi (nI (ver + 1)) (nI_add ver 1) ?_
  refine v_put F inlX1 (ci := 1) rfl tyX1 tyX1_ok nmX1 3 (by decide) rfl rfl wF_RX1_22 dX1_drop_58 (ty := .int) (by decide +kernel) rfl rfl 1 rfl (Nat.le_of_ble_eq_true rfl) (wC ad G (va_cpy T T ((l + 1) * 6) (l * 6) ((n * 6) - ((l + 1) * 6)), n - 1, mo, ver + 1) Hs P Tr Rg Tx Rd) rfl ?_
  exact v_vret F hr hlk hQ dX1_drop_61 (()) rfl (by trivial)
set_option maxHeartbeats 4000000 in
set_option maxRecDepth 100000 in
theorem m_X1_moveTo (lau : Launch) (G : GT) (ad : Nat → Nat) (T : Nat → Int32) (n mo ver : Nat) (Hs : HT) (P : PT) (Tr : TT) (Rg : RT) (Tx : XT) (Rd : DT) (mm : Nat) : MV lau G 0 yX1_moveTo cX1_moveTo 2 none [.ref (ad 1), .int (nI mm)] (wC ad G (T, n, mo, ver) Hs P Tr Rg Tx Rd) (fun u : Unit => wC ad G (T, n, mm, ver + 1) Hs P Tr Rg Tx Rd) (fun u => True) := by
  refine mv_of (by decide +kernel) (Nat.le_of_ble_eq_true rfl) ?_
  intro p e s m args below meth c A Q F hr hlk hQ
  refine v_st (w' := wC ad G (T, n, mo, ver) Hs P Tr Rg Tx Rd) (pc' := 0) (st' := []) rfl rfl rfl [0, 1] (lv' := [(0, .ref (ad 1)), (1, .int (nI mm))]) rfl ?_
  refine v_aload_n F dX1_moveTo_0 0 rfl rfl ?_
  refine v_iload_n F dX1_moveTo_1 1 rfl rfl ?_
  refine v_put F inlX1 (ci := 1) rfl tyX1 tyX1_ok nmX1 2 (by decide) rfl rfl wF_RX1_19 dX1_moveTo_2 (ty := .int) (by decide +kernel) rfl rfl 1 rfl (Nat.le_of_ble_eq_true rfl) (wC ad G (T, n, mm, ver) Hs P Tr Rg Tx Rd) rfl ?_
  refine v_aload_n F dX1_moveTo_5 0 rfl rfl ?_
  refine v_dup F dX1_moveTo_6 rfl ?_
  refine v_get (v := .int (nI ver)) F inlX1 (ci := 1) rfl 3 (by decide) rfl wF_RX1_22 dX1_moveTo_7 1 rfl rfl ?_
  refine v_iconst (v := nI 1) F dX1_moveTo_10 (by decide) ?_
  refine v_iadd F dX1_moveTo_11 ?_
  refine v_topi (nI (ver + 1)) (nI_add ver 1) ?_
  refine v_put F inlX1 (ci := 1) rfl tyX1 tyX1_ok nmX1 3 (by decide) rfl rfl wF_RX1_22 dX1_moveTo_12 (ty := .int) (by decide +kernel) rfl rfl 1 rfl (Nat.le_of_ble_eq_true rfl) (wC ad G (T, n, mm, ver + 1) Hs P Tr Rg Tx Rd) rfl ?_
  exact v_vret F hr hlk hQ dX1_moveTo_15 (()) rfl (by trivial)
set_option maxHeartbeats 4000000 in
set_option maxRecDepth 100000 in
theorem m_X1_saveTo (lau : Launch) (G : GT) (ad : Nat → Nat) (T : Nat → Int32) (n mo ver : Nat) (S : Nat → Int32) (h : Nat) (P : PT) (Tr : TT) (Rg : RT) (Tx : XT) (Rd : DT) (at_ : Nat) (hat : at_ ≤ 610) : MV lau G 2 yX1_saveTo cX1_saveTo 3 none [.ref (ad 1), .ref (ad 9), .int (nI at_)] (wC ad G (T, n, mo, ver) (S, h) P Tr Rg Tx Rd) (fun u : Unit => wC ad G (T, n, mo, ver) (va_cpy T (upd (upd S at_ (nI mo)) (at_ + 1) (nI n)) 0 (at_ + 2) 120, h) P Tr Rg Tx Rd) (fun u => True) := by
  refine mv_of (by decide +kernel) (Nat.le_of_ble_eq_true rfl) ?_
  intro p e s m args below meth c A Q F hr hlk hQ
  refine v_st (w' := wC ad G (T, n, mo, ver) (S, h) P Tr Rg Tx Rd) (pc' := 0) (st' := []) rfl rfl rfl [0, 1, 2] (lv' := [(0, .ref (ad 1)), (1, .ref (ad 9)), (2, .int (nI at_))]) rfl ?_
  refine v_iload_n F dX1_saveTo_0 2 rfl rfl ?_
  refine v_if_lt F 13 dX1_saveTo_1 (by decide) (fun c1 => ?_) (fun c1 => ?_)
  · replace c1 := nL (a := at_) (b := 0) (by omega) (by decide) c1
    exact absurd c1 (Nat.not_lt_zero _)
  · replace c1 := nLn (a := at_) (b := 0) (by omega) (by decide) c1
    refine v_iload_n F dX1_saveTo_4 2 rfl rfl ?_
    refine v_aload_n F dX1_saveTo_5 1 rfl rfl ?_
    refine v_alen F dX1_saveTo_6 9 rfl ?_
    refine v_bipush (v := nI 122) F dX1_saveTo_7 (by decide) ?_
    refine v_isub F dX1_saveTo_9 ?_
    refine v_topi (nI 610) (by decide) ?_
    refine v_icmp_le F 14 dX1_saveTo_10 (by decide) (fun c2 => ?_) (fun c2 => ?_)
    · replace c2 := nK (a := at_) (b := 610) (by omega) (by decide) c2
      refine v_aload_n F dX1_saveTo_14 1 rfl rfl ?_
      refine v_iload_n F dX1_saveTo_15 2 rfl rfl ?_
      refine v_aload_n F dX1_saveTo_16 0 rfl rfl ?_
      refine v_get (v := .int (nI mo)) F inlX1 (ci := 1) rfl 2 (by decide) rfl wF_RX1_19 dX1_saveTo_17 1 rfl rfl ?_
      refine v_iastN F dX1_saveTo_20 9 rfl at_ rfl (by omega) (by decide) (wC ad G (T, n, mo, ver) (upd S at_ (nI mo), h) P Tr Rg Tx Rd) rfl ?_
      refine v_aload_n F dX1_saveTo_21 1 rfl rfl ?_
      refine v_iload_n F dX1_saveTo_22 2 rfl rfl ?_
      refine v_iconst (v := nI 1) F dX1_saveTo_23 (by decide) ?_
      refine v_iadd F dX1_saveTo_24 ?_
      refine v_topi (nI (at_ + 1)) (nI_add at_ 1) ?_
      refine v_aload_n F dX1_saveTo_25 0 rfl rfl ?_
      refine v_get (v := .int (nI n)) F inlX1 (ci := 1) rfl 1 (by decide) rfl wF_RX1_15 dX1_saveTo_26 1 rfl rfl ?_
      refine v_iastN F dX1_saveTo_29 9 rfl (at_ + 1) rfl (by omega) (by decide) (wC ad G (T, n, mo, ver) (upd (upd S at_ (nI mo)) (at_ + 1) (nI n), h) P Tr Rg Tx Rd) rfl ?_
      refine v_aload_n F dX1_saveTo_30 0 rfl rfl ?_
      refine v_get (v := .ref (ad 8)) F inlX1 (ci := 1) rfl 0 (by decide) rfl wF_RX1_9 dX1_saveTo_31 1 rfl rfl ?_
      refine v_iconst (v := nI 0) F dX1_saveTo_34 (by decide) ?_
      refine v_aload_n F dX1_saveTo_35 1 rfl rfl ?_
      refine v_iload_n F dX1_saveTo_36 2 rfl rfl ?_
      refine v_iconst (v := nI 2) F dX1_saveTo_37 (by decide) ?_
      refine v_iadd F dX1_saveTo_38 ?_
      refine v_topi (nI (at_ + 2)) (nI_add at_ 2) ?_
      refine v_aload_n F dX1_saveTo_39 0 rfl rfl ?_
      refine v_get (v := .ref (ad 8)) F inlX1 (ci := 1) rfl 0 (by decide) rfl wF_RX1_9 dX1_saveTo_40 1 rfl rfl ?_
      refine v_alen F dX1_saveTo_43 8 rfl ?_
      refine v_copyN F wM_RX1_33 wNa_arraycopyName wSt_arraycopyName wI_RJ10 dX1_saveTo_44 8 9 rfl rfl 0 (at_ + 2) 120 rfl rfl rfl (by omega) (by omega) (by decide) (by decide) (by have := F.2.2.2.2.2.2.2.1; simp at this ⊢) (by have := F.2.2.2.2.2.2.2.2; simp [nativeFrameWords, Value.category] at this ⊢) (wC ad G (T, n, mo, ver) (va_cpy T (upd (upd S at_ (nI mo)) (at_ + 1) (nI n)) 0 (at_ + 2) 120, h) P Tr Rg Tx Rd) rfl ?_
      exact v_vret F hr hlk hQ dX1_saveTo_47 (()) rfl (by trivial)
    · replace c2 := nKn (a := at_) (b := 610) (by omega) (by decide) c2
      omega
set_option maxHeartbeats 4000000 in
set_option maxRecDepth 100000 in
theorem m_X1_restoreFrom (lau : Launch) (G : GT) (ad : Nat → Nat) (T : Nat → Int32) (n mo ver : Nat) (S : Nat → Int32) (h : Nat) (P : PT) (Tr : TT) (Rg : RT) (Tx : XT) (Rd : DT) (at_ n' mo' : Nat) (hat : at_ ≤ 610) (hn' : S (at_ + 1) = nI n') (hmo' : S at_ = nI mo') : MV lau G 2 yX1_restoreFrom cX1_restoreFrom 3 none [.ref (ad 1), .ref (ad 9), .int (nI at_)] (wC ad G (T, n, mo, ver) (S, h) P Tr Rg Tx Rd) (fun u : Unit => wC ad G (va_cpy S T (at_ + 2) 0 120, n', mo', ver + 1) (S, h) P Tr Rg Tx Rd) (fun u => True) := by
  refine mv_of (by decide +kernel) (Nat.le_of_ble_eq_true rfl) ?_
  intro p e s m args below meth c A Q F hr hlk hQ
  refine v_st (w' := wC ad G (T, n, mo, ver) (S, h) P Tr Rg Tx Rd) (pc' := 0) (st' := []) rfl rfl rfl [0, 1, 2] (lv' := [(0, .ref (ad 1)), (1, .ref (ad 9)), (2, .int (nI at_))]) rfl ?_
  refine v_iload_n F dX1_restoreFrom_0 2 rfl rfl ?_
  refine v_if_lt F 13 dX1_restoreFrom_1 (by decide) (fun c1 => ?_) (fun c1 => ?_)
  · replace c1 := nL (a := at_) (b := 0) (by omega) (by decide) c1
    exact absurd c1 (Nat.not_lt_zero _)
  · replace c1 := nLn (a := at_) (b := 0) (by omega) (by decide) c1
    refine v_iload_n F dX1_restoreFrom_4 2 rfl rfl ?_
    refine v_aload_n F dX1_restoreFrom_5 1 rfl rfl ?_
    refine v_alen F dX1_restoreFrom_6 9 rfl ?_
    refine v_bipush (v := nI 122) F dX1_restoreFrom_7 (by decide) ?_
    refine v_isub F dX1_restoreFrom_9 ?_
    refine v_topi (nI 610) (by decide) ?_
    refine v_icmp_le F 14 dX1_restoreFrom_10 (by decide) (fun c2 => ?_) (fun c2 => ?_)
    · replace c2 := nK (a := at_) (b := 610) (by omega) (by decide) c2
      refine v_aload_n F dX1_restoreFrom_14 0 rfl rfl ?_
      refine v_aload_n F dX1_restoreFrom_15 1 rfl rfl ?_
      refine v_iload_n F dX1_restoreFrom_16 2 rfl rfl ?_
      refine v_ialdN F dX1_restoreFrom_17 9 rfl at_ rfl (by omega) (by decide) (S at_) rfl ?_
      refine v_topi (nI mo') (hmo') ?_
      refine v_put F inlX1 (ci := 1) rfl tyX1 tyX1_ok nmX1 2 (by decide) rfl rfl wF_RX1_19 dX1_restoreFrom_18 (ty := .int) (by decide +kernel) rfl rfl 1 rfl (Nat.le_of_ble_eq_true rfl) (wC ad G (T, n, mo', ver) (S, h) P Tr Rg Tx Rd) rfl ?_
      refine v_aload_n F dX1_restoreFrom_21 0 rfl rfl ?_
      refine v_aload_n F dX1_restoreFrom_22 1 rfl rfl ?_
      refine v_iload_n F dX1_restoreFrom_23 2 rfl rfl ?_
      refine v_iconst (v := nI 1) F dX1_restoreFrom_24 (by decide) ?_
      refine v_iadd F dX1_restoreFrom_25 ?_
      refine v_topi (nI (at_ + 1)) (nI_add at_ 1) ?_
      refine v_ialdN F dX1_restoreFrom_26 9 rfl (at_ + 1) rfl (by omega) (by decide) (S (at_ + 1)) rfl ?_
      refine v_topi (nI n') (hn') ?_
      refine v_put F inlX1 (ci := 1) rfl tyX1 tyX1_ok nmX1 1 (by decide) rfl rfl wF_RX1_15 dX1_restoreFrom_27 (ty := .int) (by decide +kernel) rfl rfl 1 rfl (Nat.le_of_ble_eq_true rfl) (wC ad G (T, n', mo', ver) (S, h) P Tr Rg Tx Rd) rfl ?_
      refine v_aload_n F dX1_restoreFrom_30 1 rfl rfl ?_
      refine v_iload_n F dX1_restoreFrom_31 2 rfl rfl ?_
      refine v_iconst (v := nI 2) F dX1_restoreFrom_32 (by decide) ?_
      refine v_iadd F dX1_restoreFrom_33 ?_
      refine v_topi (nI (at_ + 2)) (nI_add at_ 2) ?_
      refine v_aload_n F dX1_restoreFrom_34 0 rfl rfl ?_
      refine v_get (v := .ref (ad 8)) F inlX1 (ci := 1) rfl 0 (by decide) rfl wF_RX1_9 dX1_restoreFrom_35 1 rfl rfl ?_
      refine v_iconst (v := nI 0) F dX1_restoreFrom_38 (by decide) ?_
      refine v_aload_n F dX1_restoreFrom_39 0 rfl rfl ?_
      refine v_get (v := .ref (ad 8)) F inlX1 (ci := 1) rfl 0 (by decide) rfl wF_RX1_9 dX1_restoreFrom_40 1 rfl rfl ?_
      refine v_alen F dX1_restoreFrom_43 8 rfl ?_
      refine v_copyN F wM_RX1_33 wNa_arraycopyName wSt_arraycopyName wI_RJ10 dX1_restoreFrom_44 9 8 rfl rfl (at_ + 2) 0 120 rfl rfl rfl (by omega) (by omega) (by decide) (by decide) (by have := F.2.2.2.2.2.2.2.1; simp at this ⊢) (by have := F.2.2.2.2.2.2.2.2; simp [nativeFrameWords, Value.category] at this ⊢) (wC ad G (va_cpy S T (at_ + 2) 0 120, n', mo', ver) (S, h) P Tr Rg Tx Rd) rfl ?_
      refine v_aload_n F dX1_restoreFrom_47 0 rfl rfl ?_
      refine v_dup F dX1_restoreFrom_48 rfl ?_
      refine v_get (v := .int (nI ver)) F inlX1 (ci := 1) rfl 3 (by decide) rfl wF_RX1_22 dX1_restoreFrom_49 1 rfl rfl ?_
      refine v_iconst (v := nI 1) F dX1_restoreFrom_52 (by decide) ?_
      refine v_iadd F dX1_restoreFrom_53 ?_
      refine v_topi (nI (ver + 1)) (nI_add ver 1) ?_
      refine v_put F inlX1 (ci := 1) rfl tyX1 tyX1_ok nmX1 3 (by decide) rfl rfl wF_RX1_22 dX1_restoreFrom_54 (ty := .int) (by decide +kernel) rfl rfl 1 rfl (Nat.le_of_ble_eq_true rfl) (wC ad G (va_cpy S T (at_ + 2) 0 120, n', mo', ver + 1) (S, h) P Tr Rg Tx Rd) rfl ?_
      exact v_vret F hr hlk hQ dX1_restoreFrom_57 (()) rfl (by trivial)
    · replace c2 := nKn (a := at_) (b := 610) (by omega) (by decide) c2
      omega
set_option maxHeartbeats 4000000 in
set_option maxRecDepth 100000 in
theorem m_X1_valueAt (lau : Launch) (G : GT) (ad : Nat → Nat) (T : Nat → Int32) (n mo ver : Nat) (Hs : HT) (P : PT) (Tr : TT) (Rg : RT) (Tx : XT) (Rd : DT) (l x : Nat) (hl : l < n) (hn : n ≤ 20) : MI lau G 0 yX1_valueAt cX1_valueAt 3 (some .int) [.ref (ad 1), .int (nI l), .int (nI x)] (wC ad G (T, n, mo, ver) Hs P Tr Rg Tx Rd) (fun u : Unit => wC ad G (T, n, mo, ver) Hs P Tr Rg Tx Rd) (fun r u => r = (pVal T l x)) := by
  refine mi_of (by decide +kernel) (Nat.le_of_ble_eq_true rfl) ?_
  intro p e s m args below meth c A Q F hr hlk hQ
  refine v_st (w' := wC ad G (T, n, mo, ver) Hs P Tr Rg Tx Rd) (pc' := 0) (st' := []) rfl rfl rfl [0, 1, 2] (lv' := [(0, .ref (ad 1)), (1, .int (nI l)), (2, .int (nI x))]) rfl ?_
  refine v_iload_n F dX1_valueAt_0 1 rfl rfl ?_
  refine v_if_lt F 12 dX1_valueAt_1 (by decide) (fun c1 => ?_) (fun c1 => ?_)
  · replace c1 := nL (a := l) (b := 0) (by omega) (by decide) c1
    exact absurd c1 (Nat.not_lt_zero _)
  · replace c1 := nLn (a := l) (b := 0) (by omega) (by decide) c1
    refine v_iload_n F dX1_valueAt_4 1 rfl rfl ?_
    refine v_aload_n F dX1_valueAt_5 0 rfl rfl ?_
    refine v_get (v := .int (nI n)) F inlX1 (ci := 1) rfl 1 (by decide) rfl wF_RX1_15 dX1_valueAt_6 1 rfl rfl ?_
    refine v_icmp_lt F 14 dX1_valueAt_9 (by decide) (fun c2 => ?_) (fun c2 => ?_)
    · replace c2 := nL (a := l) (b := n) (by omega) (by omega) c2
      refine v_aload_n F dX1_valueAt_14 0 rfl rfl ?_
      refine v_get (v := .ref (ad 8)) F inlX1 (ci := 1) rfl 0 (by decide) rfl wF_RX1_9 dX1_valueAt_15 1 rfl rfl ?_
      refine v_iload_n F dX1_valueAt_18 1 rfl rfl ?_
      refine v_bipush (v := nI 6) F dX1_valueAt_19 (by decide) ?_
      refine v_imul F dX1_valueAt_21 ?_
      refine v_topi (nI (l * 6)) (pk_mul l 6) ?_
      refine v_iconst (v := nI 0) F dX1_valueAt_22 (by decide) ?_
      refine v_iadd F dX1_valueAt_23 ?_
      refine v_topi (nI ((l * 6) + 0)) (nI_add (l * 6) 0) ?_
      refine v_ialdN F dX1_valueAt_24 8 rfl ((l * 6) + 0) rfl (by omega) (by decide) (T ((l * 6) + 0)) rfl ?_
      refine v_iload_n F dX1_valueAt_25 2 rfl rfl ?_
      refine v_imul F dX1_valueAt_26 ?_
      refine v_aload_n F dX1_valueAt_27 0 rfl rfl ?_
      refine v_get (v := .ref (ad 8)) F inlX1 (ci := 1) rfl 0 (by decide) rfl wF_RX1_9 dX1_valueAt_28 1 rfl rfl ?_
      refine v_iload_n F dX1_valueAt_31 1 rfl rfl ?_
      refine v_bipush (v := nI 6) F dX1_valueAt_32 (by decide) ?_
      refine v_imul F dX1_valueAt_34 ?_
      refine v_topi (nI (l * 6)) (pk_mul l 6) ?_
      refine v_iconst (v := nI 1) F dX1_valueAt_35 (by decide) ?_
      refine v_iadd F dX1_valueAt_36 ?_
      refine v_topi (nI ((l * 6) + 1)) (nI_add (l * 6) 1) ?_
      refine v_ialdN F dX1_valueAt_37 8 rfl ((l * 6) + 1) rfl (by omega) (by decide) (T ((l * 6) + 1)) rfl ?_
      refine v_iadd F dX1_valueAt_38 ?_
      exact v_iret F hr hlk hQ dX1_valueAt_39 (()) rfl (by first | rfl | (simp; done))
    · replace c2 := nLn (a := l) (b := n) (by omega) (by omega) c2
      omega
theorem cs_RX1_39 : CSV RX1 39 RX1 yX1_property cX1_property 3 (some .int) 2 := ⟨wC_yX1_property, wM_RX1_39, wIm_yX1_property, wSe_yX1_property, wI_RX1, by decide +kernel, by decide⟩
set_option maxHeartbeats 4000000 in
set_option maxRecDepth 100000 in
theorem m_X1_lives (lau : Launch) (G : GT) (ad : Nat → Nat) (T : Nat → Int32) (n mo ver : Nat) (Hs : HT) (P : PT) (Tr : TT) (Rg : RT) (Tx : XT) (Rd : DT) (l : Nat) (t : Int32) (hl : l < n) (hn : n ≤ 20) : MI lau G 1 yX1_lives cX1_lives 3 (some .boolean) [.ref (ad 1), .int (nI l), .int t] (wC ad G (T, n, mo, ver) Hs P Tr Rg Tx Rd) (fun u : Unit => wC ad G (T, n, mo, ver) Hs P Tr Rg Tx Rd) (fun r u => r = bI (lvB T l t)) := by
  refine mi_of (by decide +kernel) (Nat.le_of_ble_eq_true rfl) ?_
  intro p e s m args below meth c A Q F hr hlk hQ
  refine v_st (w' := wC ad G (T, n, mo, ver) Hs P Tr Rg Tx Rd) (pc' := 0) (st' := []) rfl rfl rfl [0, 1, 2] (lv' := [(0, .ref (ad 1)), (1, .int (nI l)), (2, .int t)]) rfl ?_
  refine v_aload_n F dX1_lives_0 0 rfl rfl ?_
  refine v_iload_n F dX1_lives_1 1 rfl rfl ?_
  refine v_iconst (v := nI 4) F dX1_lives_2 (by decide) ?_
  refine v_cVIF F cs_RX1_39 dX1_lives_3 1 (ci := 1) rfl rfl (m_X1_property lau G ad T n mo ver Hs P Tr Rg Tx Rd l 4 (by omega) (by omega) (by omega)) (by decide) rfl rfl (Nat.le_of_ble_eq_true rfl) ⟨Nat.zero_le _, Nat.zero_le _⟩ (fun r1 u2 w3 => ?_)
  subst w3
  refine v_iload_n F dX1_lives_6 2 rfl rfl ?_
  refine v_icmp_gt F 24 dX1_lives_7 (by decide) (fun c4 => ?_) (fun c4 => ?_)
  · refine v_iconst (v := nI 0) F dX1_lives_24 (by decide) ?_
    exact v_zret F hr hlk hQ rfl dX1_lives_25 (()) rfl (by simp [cnt, spB, lvB, inB, bI, nI_one, nI_0, *])
  · refine v_iload_n F dX1_lives_10 2 rfl rfl ?_
    refine v_aload_n F dX1_lives_11 0 rfl rfl ?_
    refine v_iload_n F dX1_lives_12 1 rfl rfl ?_
    refine v_iconst (v := nI 5) F dX1_lives_13 (by decide) ?_
    refine v_cVIF F cs_RX1_39 dX1_lives_14 1 (ci := 1) rfl rfl (m_X1_property lau G ad T n mo ver Hs P Tr Rg Tx Rd l 5 (by omega) (by omega) (by omega)) (by decide) rfl rfl (Nat.le_of_ble_eq_true rfl) ⟨Nat.zero_le _, Nat.zero_le _⟩ (fun r5 u6 w7 => ?_)
    subst w7
    refine v_icmp_gt F 24 dX1_lives_17 (by decide) (fun c8 => ?_) (fun c8 => ?_)
    · refine v_iconst (v := nI 0) F dX1_lives_24 (by decide) ?_
      exact v_zret F hr hlk hQ rfl dX1_lives_25 (()) rfl (by simp [cnt, spB, lvB, inB, bI, nI_one, nI_0, *])
    · refine v_iconst (v := nI 1) F dX1_lives_20 (by decide) ?_
      refine v_goto F 25 dX1_lives_21 (by decide) ?_
      exact v_zret F hr hlk hQ rfl dX1_lives_25 (()) rfl (by simp [cnt, spB, lvB, inB, bI, nI_one, nI_0, *])
set_option maxHeartbeats 4000000 in
set_option maxRecDepth 100000 in
theorem m_X1_counts (lau : Launch) (G : GT) (ad : Nat → Nat) (T : Nat → Int32) (n mo ver : Nat) (Hs : HT) (P : PT) (Tr : TT) (Rg : RT) (Tx : XT) (Rd : DT) (l x t : Nat) (hl : l < n) (hn : n ≤ 20) : MI lau G 0 yX1_counts cX1_counts 5 (some .boolean) [.ref (ad 1), .int (nI l), .int (nI x), .int (nI t)] (wC ad G (T, n, mo, ver) Hs P Tr Rg Tx Rd) (fun u : Unit => wC ad G (T, n, mo, ver) Hs P Tr Rg Tx Rd) (fun r u => r = bI (cnt T l x t)) := by
  refine mi_of (by decide +kernel) (Nat.le_of_ble_eq_true rfl) ?_
  intro p e s m args below meth c A Q F hr hlk hQ
  refine v_st (w' := wC ad G (T, n, mo, ver) Hs P Tr Rg Tx Rd) (pc' := 0) (st' := []) rfl rfl rfl [0, 1, 2, 3] (lv' := [(0, .ref (ad 1)), (1, .int (nI l)), (2, .int (nI x)), (3, .int (nI t))]) rfl ?_
  refine v_iload_n F dX1_counts_0 1 rfl rfl ?_
  refine v_if_lt F 12 dX1_counts_1 (by decide) (fun c1 => ?_) (fun c1 => ?_)
  · replace c1 := nL (a := l) (b := 0) (by omega) (by decide) c1
    exact absurd c1 (Nat.not_lt_zero _)
  · replace c1 := nLn (a := l) (b := 0) (by omega) (by decide) c1
    refine v_iload_n F dX1_counts_4 1 rfl rfl ?_
    refine v_aload_n F dX1_counts_5 0 rfl rfl ?_
    refine v_get (v := .int (nI n)) F inlX1 (ci := 1) rfl 1 (by decide) rfl wF_RX1_15 dX1_counts_6 1 rfl rfl ?_
    refine v_icmp_lt F 14 dX1_counts_9 (by decide) (fun c2 => ?_) (fun c2 => ?_)
    · replace c2 := nL (a := l) (b := n) (by omega) (by omega) c2
      refine v_iload_n F dX1_counts_14 1 rfl rfl ?_
      refine v_bipush (v := nI 6) F dX1_counts_15 (by decide) ?_
      refine v_imul F dX1_counts_17 ?_
      refine v_topi (nI (l * 6)) (pk_mul l 6) ?_
      refine v_istore (lv' := [(4, .int (nI (l * 6))), (0, .ref (ad 1)), (1, .int (nI l)), (2, .int (nI x)), (3, .int (nI t))]) F dX1_counts_18 (by decide) rfl ?_
      refine v_aload_n F dX1_counts_20 0 rfl rfl ?_
      refine v_get (v := .ref (ad 8)) F inlX1 (ci := 1) rfl 0 (by decide) rfl wF_RX1_9 dX1_counts_21 1 rfl rfl ?_
      refine v_iload F dX1_counts_24 rfl ?_
      refine v_iconst (v := nI 2) F dX1_counts_26 (by decide) ?_
      refine v_iadd F dX1_counts_27 ?_
      refine v_topi (nI ((l * 6) + 2)) (nI_add (l * 6) 2) ?_
      refine v_ialdN F dX1_counts_28 8 rfl ((l * 6) + 2) rfl (by omega) (by decide) (T ((l * 6) + 2)) rfl ?_
      refine v_iload_n F dX1_counts_29 2 rfl rfl ?_
      refine v_icmp_gt F 76 dX1_counts_30 (by decide) (fun c3 => ?_) (fun c3 => ?_)
      · refine v_iconst (v := nI 0) F dX1_counts_76 (by decide) ?_
        exact v_zret F hr hlk hQ rfl dX1_counts_77 (()) rfl (by simp [cnt, spB, lvB, inB, bI, nI_one, nI_0, *])
      · refine v_iload_n F dX1_counts_33 2 rfl rfl ?_
        refine v_aload_n F dX1_counts_34 0 rfl rfl ?_
        refine v_get (v := .ref (ad 8)) F inlX1 (ci := 1) rfl 0 (by decide) rfl wF_RX1_9 dX1_counts_35 1 rfl rfl ?_
        refine v_iload F dX1_counts_38 rfl ?_
        refine v_iconst (v := nI 3) F dX1_counts_40 (by decide) ?_
        refine v_iadd F dX1_counts_41 ?_
        refine v_topi (nI ((l * 6) + 3)) (nI_add (l * 6) 3) ?_
        refine v_ialdN F dX1_counts_42 8 rfl ((l * 6) + 3) rfl (by omega) (by decide) (T ((l * 6) + 3)) rfl ?_
        refine v_icmp_gt F 76 dX1_counts_43 (by decide) (fun c4 => ?_) (fun c4 => ?_)
        · refine v_iconst (v := nI 0) F dX1_counts_76 (by decide) ?_
          exact v_zret F hr hlk hQ rfl dX1_counts_77 (()) rfl (by simp [cnt, spB, lvB, inB, bI, nI_one, nI_0, *])
        · refine v_aload_n F dX1_counts_46 0 rfl rfl ?_
          refine v_get (v := .ref (ad 8)) F inlX1 (ci := 1) rfl 0 (by decide) rfl wF_RX1_9 dX1_counts_47 1 rfl rfl ?_
          refine v_iload F dX1_counts_50 rfl ?_
          refine v_iconst (v := nI 4) F dX1_counts_52 (by decide) ?_
          refine v_iadd F dX1_counts_53 ?_
          refine v_topi (nI ((l * 6) + 4)) (nI_add (l * 6) 4) ?_
          refine v_ialdN F dX1_counts_54 8 rfl ((l * 6) + 4) rfl (by omega) (by decide) (T ((l * 6) + 4)) rfl ?_
          refine v_iload_n F dX1_counts_55 3 rfl rfl ?_
          refine v_icmp_gt F 76 dX1_counts_56 (by decide) (fun c5 => ?_) (fun c5 => ?_)
          · refine v_iconst (v := nI 0) F dX1_counts_76 (by decide) ?_
            exact v_zret F hr hlk hQ rfl dX1_counts_77 (()) rfl (by simp [cnt, spB, lvB, inB, bI, nI_one, nI_0, *])
          · refine v_iload_n F dX1_counts_59 3 rfl rfl ?_
            refine v_aload_n F dX1_counts_60 0 rfl rfl ?_
            refine v_get (v := .ref (ad 8)) F inlX1 (ci := 1) rfl 0 (by decide) rfl wF_RX1_9 dX1_counts_61 1 rfl rfl ?_
            refine v_iload F dX1_counts_64 rfl ?_
            refine v_iconst (v := nI 5) F dX1_counts_66 (by decide) ?_
            refine v_iadd F dX1_counts_67 ?_
            refine v_topi (nI ((l * 6) + 5)) (nI_add (l * 6) 5) ?_
            refine v_ialdN F dX1_counts_68 8 rfl ((l * 6) + 5) rfl (by omega) (by decide) (T ((l * 6) + 5)) rfl ?_
            refine v_icmp_gt F 76 dX1_counts_69 (by decide) (fun c6 => ?_) (fun c6 => ?_)
            · refine v_iconst (v := nI 0) F dX1_counts_76 (by decide) ?_
              exact v_zret F hr hlk hQ rfl dX1_counts_77 (()) rfl (by simp [cnt, spB, lvB, inB, bI, nI_one, nI_0, *])
            · refine v_iconst (v := nI 1) F dX1_counts_72 (by decide) ?_
              refine v_goto F 77 dX1_counts_73 (by decide) ?_
              exact v_zret F hr hlk hQ rfl dX1_counts_77 (()) rfl (by simp [cnt, spB, lvB, inB, bI, nI_one, nI_0, *])
    · replace c2 := nLn (a := l) (b := n) (by omega) (by omega) c2
      omega
theorem cs_RX1_43 : CSV RX1 43 RX1 yX1_lives cX1_lives 3 (some .boolean) 2 := ⟨wC_yX1_lives, wM_RX1_43, wIm_yX1_lives, wSe_yX1_lives, wI_RX1, by decide +kernel, by decide⟩
set_option maxHeartbeats 4000000 in
set_option maxRecDepth 100000 in
theorem m_X1_living (lau : Launch) (G : GT) (ad : Nat → Nat) (T : Nat → Int32) (n mo ver : Nat) (Hs : HT) (P : PT) (Tr : TT) (Rg : RT) (Tx : XT) (Rd : DT) (hn : n ≤ 20) : MI lau G 2 yX1_living cX1_living 3 (some .int) [.ref (ad 1)] (wC ad G (T, n, mo, ver) Hs P Tr Rg Tx Rd) (fun u : Unit => wC ad G (T, n, mo, ver) Hs P Tr Rg Tx Rd) (fun r u => r = nI (lvc T mo n)) := by
  refine mi_of (by decide +kernel) (Nat.le_of_ble_eq_true rfl) ?_
  intro p e s m args below meth c A Q F hr hlk hQ
  refine v_st (w' := wC ad G (T, n, mo, ver) Hs P Tr Rg Tx Rd) (pc' := 0) (st' := []) rfl rfl rfl [0] (lv' := [(0, .ref (ad 1))]) rfl ?_
  refine v_iconst (v := nI 0) F dX1_living_0 (by decide) ?_
  refine v_istore_n (lv' := [(1, .int (nI 0)), (0, .ref (ad 1))]) F dX1_living_1 1 rfl (by decide) rfl ?_
  refine v_iconst (v := nI 0) F dX1_living_2 (by decide) ?_
  refine v_istore_n (lv' := [(2, .int (nI 0)), (1, .int (nI 0)), (0, .ref (ad 1))]) F dX1_living_3 2 rfl (by decide) rfl ?_
  have L4 : ∀ (k_ : Nat) (i : Nat) (k : Nat), n - i < k_ → (i ≤ n) → (k = lvc T mo i) → V p lau e (RM 2) s m args below meth c 3 G A Q (wC ad G (T, n, mo, ver) Hs P Tr Rg Tx Rd) 0 0 4 [(2, .int (nI i)), (1, .int (nI k)), (0, .ref (ad 1))] [] := by
    intro k_
    induction k_ with
    | zero => exact fun i k hk_ hi hk => absurd hk_ (Nat.not_lt_zero _)
    | succ k_ ih4 =>
      intro i k hk_4 hi hk
      refine v_iload_n F dX1_living_4 2 rfl rfl ?_
      refine v_aload_n F dX1_living_5 0 rfl rfl ?_
      refine v_get (v := .int (nI n)) F inlX1 (ci := 1) rfl 1 (by decide) rfl wF_RX1_15 dX1_living_6 1 rfl rfl ?_
      refine v_icmp_ge F 33 dX1_living_9 (by decide) (fun c1 => ?_) (fun c1 => ?_)
      · replace c1 := nG (a := i) (b := n) (by omega) (by omega) c1
        refine v_iload_n F dX1_living_33 1 rfl rfl ?_
        exact v_iret F hr hlk hQ dX1_living_34 (()) rfl (by rw [show k = lvc T mo n by rw [hk, show i = n by omega]])
      · replace c1 := nGn (a := i) (b := n) (by omega) (by omega) c1
        refine v_aload_n F dX1_living_12 0 rfl rfl ?_
        refine v_iload_n F dX1_living_13 2 rfl rfl ?_
        refine v_aload_n F dX1_living_14 0 rfl rfl ?_
        refine v_get (v := .int (nI mo)) F inlX1 (ci := 1) rfl 2 (by decide) rfl wF_RX1_19 dX1_living_15 1 rfl rfl ?_
        refine v_cVIF F cs_RX1_43 dX1_living_18 1 (ci := 1) rfl rfl (m_X1_lives lau G ad T n mo ver Hs P Tr Rg Tx Rd i (nI mo) (by omega) (by omega)) (by decide) rfl rfl (Nat.le_of_ble_eq_true rfl) ⟨Nat.zero_le _, Nat.zero_le _⟩ (fun r2 u3 w4 => ?_)
        subst w4
        refine v_if_eq F 27 dX1_living_21 (by decide) (fun c5 => ?_) (fun c5 => ?_)
        · replace c5 := bI_f c5
          refine v_iinc (lv' := [(2, .int (nI (i + 1))), (1, .int (nI k)), (0, .ref (ad 1))]) F (nI (i + 1)) dX1_living_27 rfl (nI_add i 1) (by decide) rfl ?_
          refine v_goto F 4 dX1_living_30 (by decide) ?_
          refine v_st (w' := wC ad G (T, n, mo, ver) Hs P Tr Rg Tx Rd) (pc' := 4) (st' := []) rfl rfl rfl [0, 1, 2] (lv' := [(2, .int (nI (i + 1))), (1, .int (nI k)), (0, .ref (ad 1))]) rfl ?_
          exact ih4 (i + 1) k (by omega) (by omega) (by simp [lvc, *])
        · replace c5 := bI_t c5
          refine v_iinc (lv' := [(1, .int (nI (k + 1))), (2, .int (nI i)), (0, .ref (ad 1))]) F (nI (k + 1)) dX1_living_24 rfl (nI_add k 1) (by decide) rfl ?_
          refine v_iinc (lv' := [(2, .int (nI (i + 1))), (1, .int (nI (k + 1))), (0, .ref (ad 1))]) F (nI (i + 1)) dX1_living_27 rfl (nI_add i 1) (by decide) rfl ?_
          refine v_goto F 4 dX1_living_30 (by decide) ?_
          refine v_st (w' := wC ad G (T, n, mo, ver) Hs P Tr Rg Tx Rd) (pc' := 4) (st' := []) rfl rfl rfl [0, 1, 2] (lv' := [(2, .int (nI (i + 1))), (1, .int (nI (k + 1))), (0, .ref (ad 1))]) rfl ?_
          exact ih4 (i + 1) (k + 1) (by omega) (by omega) (by simp [lvc, *])
  refine v_st (w' := wC ad G (T, n, mo, ver) Hs P Tr Rg Tx Rd) (pc' := 4) (st' := []) rfl rfl rfl [0, 1, 2] (lv' := [(2, .int (nI 0)), (1, .int (nI 0)), (0, .ref (ad 1))]) rfl ?_
  exact L4 _ 0 0 (Nat.lt_succ_self _) (by omega) (rfl)
set_option maxHeartbeats 4000000 in
set_option maxRecDepth 100000 in
theorem m_X1_livesChangeAt (lau : Launch) (G : GT) (ad : Nat → Nat) (T : Nat → Int32) (n mo ver : Nat) (Hs : HT) (P : PT) (Tr : TT) (Rg : RT) (Tx : XT) (Rd : DT) (t : Nat) (hn : n ≤ 20) : MI lau G 2 yX1_livesChangeAt cX1_livesChangeAt 3 (some .boolean) [.ref (ad 1), .int (nI t)] (wC ad G (T, n, mo, ver) Hs P Tr Rg Tx Rd) (fun u : Unit => wC ad G (T, n, mo, ver) Hs P Tr Rg Tx Rd) (fun r u => r = bI (chg T t n)) := by
  refine mi_of (by decide +kernel) (Nat.le_of_ble_eq_true rfl) ?_
  intro p e s m args below meth c A Q F hr hlk hQ
  refine v_st (w' := wC ad G (T, n, mo, ver) Hs P Tr Rg Tx Rd) (pc' := 0) (st' := []) rfl rfl rfl [0, 1] (lv' := [(0, .ref (ad 1)), (1, .int (nI t))]) rfl ?_
  refine v_iconst (v := nI 0) F dX1_livesChangeAt_0 (by decide) ?_
  refine v_istore_n (lv' := [(2, .int (nI 0)), (0, .ref (ad 1)), (1, .int (nI t))]) F dX1_livesChangeAt_1 2 rfl (by decide) rfl ?_
  have L2 : ∀ (k_ : Nat) (i : Nat), n - i < k_ → (i ≤ n) → (chg T t i = false) → V p lau e (RM 2) s m args below meth c 3 G A Q (wC ad G (T, n, mo, ver) Hs P Tr Rg Tx Rd) 0 0 2 [(2, .int (nI i)), (0, .ref (ad 1)), (1, .int (nI t))] [] := by
    intro k_
    induction k_ with
    | zero => exact fun i hk_ hi hk => absurd hk_ (Nat.not_lt_zero _)
    | succ k_ ih2 =>
      intro i hk_2 hi hk
      refine v_iload_n F dX1_livesChangeAt_2 2 rfl rfl ?_
      refine v_aload_n F dX1_livesChangeAt_3 0 rfl rfl ?_
      refine v_get (v := .int (nI n)) F inlX1 (ci := 1) rfl 1 (by decide) rfl wF_RX1_15 dX1_livesChangeAt_4 1 rfl rfl ?_
      refine v_icmp_ge F 35 dX1_livesChangeAt_7 (by decide) (fun c1 => ?_) (fun c1 => ?_)
      · replace c1 := nG (a := i) (b := n) (by omega) (by omega) c1
        refine v_iconst (v := nI 0) F dX1_livesChangeAt_35 (by decide) ?_
        exact v_zret F hr hlk hQ rfl dX1_livesChangeAt_36 (()) rfl (by rw [show chg T t n = false by rw [← hk, show i = n by omega]]; rfl)
      · replace c1 := nGn (a := i) (b := n) (by omega) (by omega) c1
        refine v_aload_n F dX1_livesChangeAt_10 0 rfl rfl ?_
        refine v_iload_n F dX1_livesChangeAt_11 2 rfl rfl ?_
        refine v_iload_n F dX1_livesChangeAt_12 1 rfl rfl ?_
        refine v_cVIF F cs_RX1_43 dX1_livesChangeAt_13 1 (ci := 1) rfl rfl (m_X1_lives lau G ad T n mo ver Hs P Tr Rg Tx Rd i (nI t) (by omega) (by omega)) (by decide) rfl rfl (Nat.le_of_ble_eq_true rfl) ⟨Nat.zero_le _, Nat.zero_le _⟩ (fun r2 u3 w4 => ?_)
        subst w4
        refine v_aload_n F dX1_livesChangeAt_16 0 rfl rfl ?_
        refine v_iload_n F dX1_livesChangeAt_17 2 rfl rfl ?_
        refine v_iload_n F dX1_livesChangeAt_18 1 rfl rfl ?_
        refine v_iconst (v := nI 1) F dX1_livesChangeAt_19 (by decide) ?_
        refine v_isub F dX1_livesChangeAt_20 ?_
        refine v_cVIF F cs_RX1_43 dX1_livesChangeAt_21 1 (ci := 1) rfl rfl (m_X1_lives lau G ad T n mo ver Hs P Tr Rg Tx Rd i (nI t - nI 1) (by omega) (by omega)) (by decide) rfl rfl (Nat.le_of_ble_eq_true rfl) ⟨Nat.zero_le _, Nat.zero_le _⟩ (fun r5 u6 w7 => ?_)
        subst w7
        refine v_icmp_eq F 29 dX1_livesChangeAt_24 (by decide) (fun c8 => ?_) (fun c8 => ?_)
        · refine v_iinc (lv' := [(2, .int (nI (i + 1))), (0, .ref (ad 1)), (1, .int (nI t))]) F (nI (i + 1)) dX1_livesChangeAt_29 rfl (nI_add i 1) (by decide) rfl ?_
          refine v_goto F 2 dX1_livesChangeAt_32 (by decide) ?_
          refine v_st (w' := wC ad G (T, n, mo, ver) Hs P Tr Rg Tx Rd) (pc' := 2) (st' := []) rfl rfl rfl [0, 1, 2] (lv' := [(2, .int (nI (i + 1))), (0, .ref (ad 1)), (1, .int (nI t))]) rfl ?_
          exact ih2 (i + 1) (by omega) (by omega) (chg_s hk (by assumption))
        · refine v_iconst (v := nI 1) F dX1_livesChangeAt_27 (by decide) ?_
          exact v_zret F hr hlk hQ rfl dX1_livesChangeAt_28 (()) rfl (by exact chg_y (by assumption) (by assumption))
  refine v_st (w' := wC ad G (T, n, mo, ver) Hs P Tr Rg Tx Rd) (pc' := 2) (st' := []) rfl rfl rfl [0, 1, 2] (lv' := [(2, .int (nI 0)), (0, .ref (ad 1)), (1, .int (nI t))]) rfl ?_
  exact L2 _ 0 (Nat.lt_succ_self _) (by omega) (rfl)
theorem cs_RX1_47 : CSV RX1 47 RX1 yX1_valueAt cX1_valueAt 3 (some .int) 2 := ⟨wC_yX1_valueAt, wM_RX1_47, wIm_yX1_valueAt, wSe_yX1_valueAt, wI_RX1, by decide +kernel, by decide⟩
set_option maxHeartbeats 4000000 in
set_option maxRecDepth 100000 in
theorem m_X1_isLower (lau : Launch) (G : GT) (ad : Nat → Nat) (T : Nat → Int32) (n mo ver : Nat) (Hs : HT) (P : PT) (Tr : TT) (Rg : RT) (Tx : XT) (Rd : DT) (l o x : Nat) (hl : l < n) (ho : o < n) (hn : n ≤ 20) (hT : TOK T n) (hx : x < 64) : MI lau G 1 yX1_isLower cX1_isLower 5 (some .boolean) [.ref (ad 1), .int (nI l), .int (nI o), .int (nI x)] (wC ad G (T, n, mo, ver) Hs P Tr Rg Tx Rd) (fun u : Unit => wC ad G (T, n, mo, ver) Hs P Tr Rg Tx Rd) (fun r u => r = bI (low T l o x)) := by
  refine mi_of (by decide +kernel) (Nat.le_of_ble_eq_true rfl) ?_
  intro p e s m args below meth c A Q F hr hlk hQ
  refine v_st (w' := wC ad G (T, n, mo, ver) Hs P Tr Rg Tx Rd) (pc' := 0) (st' := []) rfl rfl rfl [0, 1, 2, 3] (lv' := [(0, .ref (ad 1)), (1, .int (nI l)), (2, .int (nI o)), (3, .int (nI x))]) rfl ?_
  refine v_aload_n F dX1_isLower_0 0 rfl rfl ?_
  refine v_iload_n F dX1_isLower_1 1 rfl rfl ?_
  refine v_iload_n F dX1_isLower_2 3 rfl rfl ?_
  refine v_cVIF F cs_RX1_47 dX1_isLower_3 1 (ci := 1) rfl rfl (m_X1_valueAt lau G ad T n mo ver Hs P Tr Rg Tx Rd l x (by omega) (by omega)) (by decide) rfl rfl (Nat.le_of_ble_eq_true rfl) ⟨Nat.zero_le _, Nat.zero_le _⟩ (fun r1 u2 w3 => ?_)
  subst w3
  refine v_aload_n F dX1_isLower_6 0 rfl rfl ?_
  refine v_iload_n F dX1_isLower_7 2 rfl rfl ?_
  refine v_iload_n F dX1_isLower_8 3 rfl rfl ?_
  refine v_cVIF F cs_RX1_47 dX1_isLower_9 1 (ci := 1) rfl rfl (m_X1_valueAt lau G ad T n mo ver Hs P Tr Rg Tx Rd o x (by omega) (by omega)) (by decide) rfl rfl (Nat.le_of_ble_eq_true rfl) ⟨Nat.zero_le _, Nat.zero_le _⟩ (fun r4 u5 w6 => ?_)
  subst w6
  refine v_isub F dX1_isLower_12 ?_
  refine v_istore (lv' := [(4, .int ((pVal T l x) - (pVal T o x))), (0, .ref (ad 1)), (1, .int (nI l)), (2, .int (nI o)), (3, .int (nI x))]) F dX1_isLower_13 (by decide) rfl ?_
  refine v_iload F dX1_isLower_15 rfl ?_
  refine v_if_lt F 30 dX1_isLower_17 (by decide) (fun c7 => ?_) (fun c7 => ?_)
  · refine v_iconst (v := nI 1) F dX1_isLower_30 (by decide) ?_
    refine v_goto F 35 dX1_isLower_31 (by decide) ?_
    exact v_zret F hr hlk hQ rfl dX1_isLower_35 (()) rfl (by first | exact low_1 (hT _ hl) (hT _ ho) hx (by assumption) | exact low_3 (hT _ hl) (hT _ ho) hx (by assumption) (by assumption) (by assumption) | exact low_4 (hT _ hl) (hT _ ho) hx (by assumption) (by assumption) (by assumption) | exact low_2 (hT _ hl) (hT _ ho) hx (by assumption) (by assumption))
  · refine v_iload F dX1_isLower_20 rfl ?_
    refine v_if_ne F 34 dX1_isLower_22 (by decide) (fun c8 => ?_) (fun c8 => ?_)
    · refine v_iconst (v := nI 0) F dX1_isLower_34 (by decide) ?_
      exact v_zret F hr hlk hQ rfl dX1_isLower_35 (()) rfl (by first | exact low_1 (hT _ hl) (hT _ ho) hx (by assumption) | exact low_3 (hT _ hl) (hT _ ho) hx (by assumption) (by assumption) (by assumption) | exact low_4 (hT _ hl) (hT _ ho) hx (by assumption) (by assumption) (by assumption) | exact low_2 (hT _ hl) (hT _ ho) hx (by assumption) (by assumption))
    · refine v_iload_n F dX1_isLower_25 1 rfl rfl ?_
      refine v_iload_n F dX1_isLower_26 2 rfl rfl ?_
      refine v_icmp_ge F 34 dX1_isLower_27 (by decide) (fun c9 => ?_) (fun c9 => ?_)
      · replace c9 := nG (a := l) (b := o) (by omega) (by omega) c9
        refine v_iconst (v := nI 0) F dX1_isLower_34 (by decide) ?_
        exact v_zret F hr hlk hQ rfl dX1_isLower_35 (()) rfl (by first | exact low_1 (hT _ hl) (hT _ ho) hx (by assumption) | exact low_3 (hT _ hl) (hT _ ho) hx (by assumption) (by assumption) (by assumption) | exact low_4 (hT _ hl) (hT _ ho) hx (by assumption) (by assumption) (by assumption) | exact low_2 (hT _ hl) (hT _ ho) hx (by assumption) (by assumption))
      · replace c9 := nGn (a := l) (b := o) (by omega) (by omega) c9
        refine v_iconst (v := nI 1) F dX1_isLower_30 (by decide) ?_
        refine v_goto F 35 dX1_isLower_31 (by decide) ?_
        exact v_zret F hr hlk hQ rfl dX1_isLower_35 (()) rfl (by first | exact low_1 (hT _ hl) (hT _ ho) hx (by assumption) | exact low_3 (hT _ hl) (hT _ ho) hx (by assumption) (by assumption) (by assumption) | exact low_4 (hT _ hl) (hT _ ho) hx (by assumption) (by assumption) (by assumption) | exact low_2 (hT _ hl) (hT _ ho) hx (by assumption) (by assumption))
theorem cs_RX1_50 : CSV RX1 50 RX1 yX1_counts cX1_counts 5 (some .boolean) 3 := ⟨wC_yX1_counts, wM_RX1_50, wIm_yX1_counts, wSe_yX1_counts, wI_RX1, by decide +kernel, by decide⟩
theorem cs_RX1_54 : CSV RX1 54 RX1 yX1_isLower cX1_isLower 5 (some .boolean) 3 := ⟨wC_yX1_isLower, wM_RX1_54, wIm_yX1_isLower, wSe_yX1_isLower, wI_RX1, by decide +kernel, by decide⟩
set_option maxHeartbeats 4000000 in
set_option maxRecDepth 100000 in
theorem m_X1_rankOf (lau : Launch) (G : GT) (ad : Nat → Nat) (T : Nat → Int32) (n mo ver : Nat) (Hs : HT) (P : PT) (Tr : TT) (Rg : RT) (Tx : XT) (Rd : DT) (l x : Nat) (hl : l < n) (hn : n ≤ 20) (hT : TOK T n) (hx : x < 64) : MI lau G 2 yX1_rankOf cX1_rankOf 5 (some .int) [.ref (ad 1), .int (nI l), .int (nI x)] (wC ad G (T, n, mo, ver) Hs P Tr Rg Tx Rd) (fun u : Unit => wC ad G (T, n, mo, ver) Hs P Tr Rg Tx Rd) (fun r u => r = nI (rnk T l x mo n)) := by
  refine mi_of (by decide +kernel) (Nat.le_of_ble_eq_true rfl) ?_
  intro p e s m args below meth c A Q F hr hlk hQ
  refine v_st (w' := wC ad G (T, n, mo, ver) Hs P Tr Rg Tx Rd) (pc' := 0) (st' := []) rfl rfl rfl [0, 1, 2] (lv' := [(0, .ref (ad 1)), (1, .int (nI l)), (2, .int (nI x))]) rfl ?_
  refine v_iconst (v := nI 0) F dX1_rankOf_0 (by decide) ?_
  refine v_istore_n (lv' := [(3, .int (nI 0)), (0, .ref (ad 1)), (1, .int (nI l)), (2, .int (nI x))]) F dX1_rankOf_1 3 rfl (by decide) rfl ?_
  refine v_iconst (v := nI 0) F dX1_rankOf_2 (by decide) ?_
  refine v_istore (lv' := [(4, .int (nI 0)), (3, .int (nI 0)), (0, .ref (ad 1)), (1, .int (nI l)), (2, .int (nI x))]) F dX1_rankOf_3 (by decide) rfl ?_
  have L5 : ∀ (k_ : Nat) (i : Nat) (k : Nat), n - i < k_ → (i ≤ n) → (k = rnk T l x mo i) → V p lau e (RM 2) s m args below meth c 5 G A Q (wC ad G (T, n, mo, ver) Hs P Tr Rg Tx Rd) 0 0 5 [(4, .int (nI i)), (3, .int (nI k)), (0, .ref (ad 1)), (1, .int (nI l)), (2, .int (nI x))] [] := by
    intro k_
    induction k_ with
    | zero => exact fun i k hk_ hi hk => absurd hk_ (Nat.not_lt_zero _)
    | succ k_ ih5 =>
      intro i k hk_5 hi hk
      refine v_iload F dX1_rankOf_5 rfl ?_
      refine v_aload_n F dX1_rankOf_7 0 rfl rfl ?_
      refine v_get (v := .int (nI n)) F inlX1 (ci := 1) rfl 1 (by decide) rfl wF_RX1_15 dX1_rankOf_8 1 rfl rfl ?_
      refine v_icmp_ge F 48 dX1_rankOf_11 (by decide) (fun c1 => ?_) (fun c1 => ?_)
      · replace c1 := nG (a := i) (b := n) (by omega) (by omega) c1
        refine v_iload_n F dX1_rankOf_48 3 rfl rfl ?_
        exact v_iret F hr hlk hQ dX1_rankOf_49 (()) rfl (by rw [show k = rnk T l x mo n by rw [hk, show i = n by omega]])
      · replace c1 := nGn (a := i) (b := n) (by omega) (by omega) c1
        refine v_aload_n F dX1_rankOf_14 0 rfl rfl ?_
        refine v_iload F dX1_rankOf_15 rfl ?_
        refine v_iload_n F dX1_rankOf_17 2 rfl rfl ?_
        refine v_aload_n F dX1_rankOf_18 0 rfl rfl ?_
        refine v_get (v := .int (nI mo)) F inlX1 (ci := 1) rfl 2 (by decide) rfl wF_RX1_19 dX1_rankOf_19 1 rfl rfl ?_
        refine v_cVIF F cs_RX1_50 dX1_rankOf_22 1 (ci := 1) rfl rfl (m_X1_counts lau G ad T n mo ver Hs P Tr Rg Tx Rd i x mo (by omega) (by omega)) (by decide) rfl rfl (Nat.le_of_ble_eq_true rfl) ⟨Nat.zero_le _, Nat.zero_le _⟩ (fun r2 u3 w4 => ?_)
        subst w4
        refine v_if_eq F 42 dX1_rankOf_25 (by decide) (fun c5 => ?_) (fun c5 => ?_)
        · replace c5 := bI_f c5
          refine v_iinc (lv' := [(4, .int (nI (i + 1))), (3, .int (nI k)), (0, .ref (ad 1)), (1, .int (nI l)), (2, .int (nI x))]) F (nI (i + 1)) dX1_rankOf_42 rfl (nI_add i 1) (by decide) rfl ?_
          refine v_goto F 5 dX1_rankOf_45 (by decide) ?_
          refine v_st (w' := wC ad G (T, n, mo, ver) Hs P Tr Rg Tx Rd) (pc' := 5) (st' := []) rfl rfl rfl [0, 1, 2, 3, 4] (lv' := [(4, .int (nI (i + 1))), (3, .int (nI k)), (0, .ref (ad 1)), (1, .int (nI l)), (2, .int (nI x))]) rfl ?_
          exact ih5 (i + 1) k (by omega) (by omega) (by simp [rnk, *])
        · replace c5 := bI_t c5
          refine v_aload_n F dX1_rankOf_28 0 rfl rfl ?_
          refine v_iload F dX1_rankOf_29 rfl ?_
          refine v_iload_n F dX1_rankOf_31 1 rfl rfl ?_
          refine v_iload_n F dX1_rankOf_32 2 rfl rfl ?_
          refine v_cVIF F cs_RX1_54 dX1_rankOf_33 1 (ci := 1) rfl rfl (m_X1_isLower lau G ad T n mo ver Hs P Tr Rg Tx Rd i l x (by omega) (by omega) (by omega) hT (by omega)) (by decide) rfl rfl (Nat.le_of_ble_eq_true rfl) ⟨Nat.zero_le _, Nat.zero_le _⟩ (fun r6 u7 w8 => ?_)
          subst w8
          refine v_if_eq F 42 dX1_rankOf_36 (by decide) (fun c9 => ?_) (fun c9 => ?_)
          · replace c9 := bI_f c9
            refine v_iinc (lv' := [(4, .int (nI (i + 1))), (3, .int (nI k)), (0, .ref (ad 1)), (1, .int (nI l)), (2, .int (nI x))]) F (nI (i + 1)) dX1_rankOf_42 rfl (nI_add i 1) (by decide) rfl ?_
            refine v_goto F 5 dX1_rankOf_45 (by decide) ?_
            refine v_st (w' := wC ad G (T, n, mo, ver) Hs P Tr Rg Tx Rd) (pc' := 5) (st' := []) rfl rfl rfl [0, 1, 2, 3, 4] (lv' := [(4, .int (nI (i + 1))), (3, .int (nI k)), (0, .ref (ad 1)), (1, .int (nI l)), (2, .int (nI x))]) rfl ?_
            exact ih5 (i + 1) k (by omega) (by omega) (by simp [rnk, *])
          · replace c9 := bI_t c9
            refine v_iinc (lv' := [(3, .int (nI (k + 1))), (4, .int (nI i)), (0, .ref (ad 1)), (1, .int (nI l)), (2, .int (nI x))]) F (nI (k + 1)) dX1_rankOf_39 rfl (nI_add k 1) (by decide) rfl ?_
            refine v_iinc (lv' := [(4, .int (nI (i + 1))), (3, .int (nI (k + 1))), (0, .ref (ad 1)), (1, .int (nI l)), (2, .int (nI x))]) F (nI (i + 1)) dX1_rankOf_42 rfl (nI_add i 1) (by decide) rfl ?_
            refine v_goto F 5 dX1_rankOf_45 (by decide) ?_
            refine v_st (w' := wC ad G (T, n, mo, ver) Hs P Tr Rg Tx Rd) (pc' := 5) (st' := []) rfl rfl rfl [0, 1, 2, 3, 4] (lv' := [(4, .int (nI (i + 1))), (3, .int (nI (k + 1))), (0, .ref (ad 1)), (1, .int (nI l)), (2, .int (nI x))]) rfl ?_
            exact ih5 (i + 1) (k + 1) (by omega) (by omega) (by simp [rnk, *])
  refine v_st (w' := wC ad G (T, n, mo, ver) Hs P Tr Rg Tx Rd) (pc' := 5) (st' := []) rfl rfl rfl [0, 1, 2, 3, 4] (lv' := [(4, .int (nI 0)), (3, .int (nI 0)), (0, .ref (ad 1)), (1, .int (nI l)), (2, .int (nI x))]) rfl ?_
  exact L5 _ 0 0 (Nat.lt_succ_self _) (by omega) (rfl)
set_option maxHeartbeats 4000000 in
set_option maxRecDepth 100000 in
theorem m_X1_lowestBut (lau : Launch) (G : GT) (ad : Nat → Nat) (T : Nat → Int32) (n mo ver : Nat) (Hs : HT) (P : PT) (Tr : TT) (Rg : RT) (Tx : XT) (Rd : DT) (lo : Int32) (x t : Nat) (hn : n ≤ 20) : MI lau G 2 yX1_lowestBut cX1_lowestBut 8 (some .int) [.ref (ad 1), .int lo, .int (nI x), .int (nI t)] (wC ad G (T, n, mo, ver) Hs P Tr Rg Tx Rd) (fun u : Unit => wC ad G (T, n, mo, ver) Hs P Tr Rg Tx Rd) (fun r u => r = (oI (lb T x t lo n))) := by
  refine mi_of (by decide +kernel) (Nat.le_of_ble_eq_true rfl) ?_
  intro p e s m args below meth c A Q F hr hlk hQ
  refine v_st (w' := wC ad G (T, n, mo, ver) Hs P Tr Rg Tx Rd) (pc' := 0) (st' := []) rfl rfl rfl [0, 1, 2, 3] (lv' := [(0, .ref (ad 1)), (1, .int lo), (2, .int (nI x)), (3, .int (nI t))]) rfl ?_
  refine v_iconst (v := (-1)) F dX1_lowestBut_0 (by decide) ?_
  refine v_istore (lv' := [(4, .int (-1)), (0, .ref (ad 1)), (1, .int lo), (2, .int (nI x)), (3, .int (nI t))]) F dX1_lowestBut_1 (by decide) rfl ?_
  refine v_iconst (v := nI 0) F dX1_lowestBut_3 (by decide) ?_
  refine v_istore (lv' := [(5, .int (nI 0)), (4, .int (-1)), (0, .ref (ad 1)), (1, .int lo), (2, .int (nI x)), (3, .int (nI t))]) F dX1_lowestBut_4 (by decide) rfl ?_
  refine v_iconst (v := nI 0) F dX1_lowestBut_6 (by decide) ?_
  refine v_istore (lv' := [(6, .int (nI 0)), (5, .int (nI 0)), (4, .int (-1)), (0, .ref (ad 1)), (1, .int lo), (2, .int (nI x)), (3, .int (nI t))]) F dX1_lowestBut_7 (by decide) rfl ?_
  have L9 : ∀ (k_ : Nat) (i : Nat) (a : Int32) (b : Int32), n - i < k_ → (i ≤ n) → (a = oI (lb T x t lo i)) → (b = oV T x (lb T x t lo i)) → V p lau e (RM 2) s m args below meth c 8 G A Q (wC ad G (T, n, mo, ver) Hs P Tr Rg Tx Rd) 0 0 9 [(6, .int (nI i)), (5, .int b), (4, .int a), (0, .ref (ad 1)), (1, .int lo), (2, .int (nI x)), (3, .int (nI t))] [] := by
    intro k_
    induction k_ with
    | zero => exact fun i a b hk_ hi ha hb => absurd hk_ (Nat.not_lt_zero _)
    | succ k_ ih9 =>
      intro i a b hk_9 hi ha hb
      subst ha; subst hb
      refine v_iload F dX1_lowestBut_9 rfl ?_
      refine v_aload_n F dX1_lowestBut_11 0 rfl rfl ?_
      refine v_get (v := .int (nI n)) F inlX1 (ci := 1) rfl 1 (by decide) rfl wF_RX1_15 dX1_lowestBut_12 1 rfl rfl ?_
      refine v_icmp_ge F 71 dX1_lowestBut_15 (by decide) (fun c1 => ?_) (fun c1 => ?_)
      · replace c1 := nG (a := i) (b := n) (by omega) (by omega) c1
        refine v_iload F dX1_lowestBut_71 rfl ?_
        exact v_iret F hr hlk hQ dX1_lowestBut_73 (()) rfl (by rw [show i = n by omega])
      · replace c1 := nGn (a := i) (b := n) (by omega) (by omega) c1
        refine v_iload F dX1_lowestBut_18 rfl ?_
        refine v_iload_n F dX1_lowestBut_20 1 rfl rfl ?_
        refine v_icmp_eq F 65 dX1_lowestBut_21 (by decide) (fun c2 => ?_) (fun c2 => ?_)
        · refine v_iinc (lv' := [(6, .int (nI (i + 1))), (5, .int (oV T x (lb T x t lo i))), (4, .int (oI (lb T x t lo i))), (0, .ref (ad 1)), (1, .int lo), (2, .int (nI x)), (3, .int (nI t))]) F (nI (i + 1)) dX1_lowestBut_65 rfl (nI_add i 1) (by decide) rfl ?_
          refine v_goto F 9 dX1_lowestBut_68 (by decide) ?_
          refine v_st (w' := wC ad G (T, n, mo, ver) Hs P Tr Rg Tx Rd) (pc' := 9) (st' := []) rfl rfl rfl [0, 1, 2, 3, 4, 5, 6] (lv' := [(6, .int (nI (i + 1))), (5, .int (oV T x (lb T x t lo i))), (4, .int (oI (lb T x t lo i))), (0, .ref (ad 1)), (1, .int lo), (2, .int (nI x)), (3, .int (nI t))]) rfl ?_
          exact ih9 (i + 1) (oI (lb T x t lo i)) (oV T x (lb T x t lo i)) (by omega) (by omega) (by first | rw [lb_a (T := T) (x := x) (t := t) (out := lo) (i := i) (by assumption)] | rw [lb_b (T := T) (x := x) (t := t) (out := lo) (i := i) (by assumption)] | rw [lb_d (T := T) (x := x) (t := t) (out := lo) (i := i) (by assumption) (by assumption)] | (rw [lb_c (T := T) (x := x) (t := t) (out := lo) (i := i) (by assumption) (by assumption) (by omega) (by assumption)]; rfl) | (rw [lb_e (T := T) (x := x) (t := t) (out := lo) (i := i) (by assumption) (by assumption) (by assumption) (by assumption)]; rfl)) (by first | rw [lb_a (T := T) (x := x) (t := t) (out := lo) (i := i) (by assumption)] | rw [lb_b (T := T) (x := x) (t := t) (out := lo) (i := i) (by assumption)] | rw [lb_d (T := T) (x := x) (t := t) (out := lo) (i := i) (by assumption) (by assumption)] | (rw [lb_c (T := T) (x := x) (t := t) (out := lo) (i := i) (by assumption) (by assumption) (by omega) (by assumption)]; rfl) | (rw [lb_e (T := T) (x := x) (t := t) (out := lo) (i := i) (by assumption) (by assumption) (by assumption) (by assumption)]; rfl))
        · refine v_aload_n F dX1_lowestBut_24 0 rfl rfl ?_
          refine v_iload F dX1_lowestBut_25 rfl ?_
          refine v_iload_n F dX1_lowestBut_27 2 rfl rfl ?_
          refine v_iload_n F dX1_lowestBut_28 3 rfl rfl ?_
          refine v_cVIF F cs_RX1_50 dX1_lowestBut_29 1 (ci := 1) rfl rfl (m_X1_counts lau G ad T n mo ver Hs P Tr Rg Tx Rd i x t (by omega) (by omega)) (by decide) rfl rfl (Nat.le_of_ble_eq_true rfl) ⟨Nat.zero_le _, Nat.zero_le _⟩ (fun r3 u4 w5 => ?_)
          subst w5
          refine v_if_eq F 65 dX1_lowestBut_32 (by decide) (fun c6 => ?_) (fun c6 => ?_)
          · replace c6 := bI_f c6
            refine v_iinc (lv' := [(6, .int (nI (i + 1))), (5, .int (oV T x (lb T x t lo i))), (4, .int (oI (lb T x t lo i))), (0, .ref (ad 1)), (1, .int lo), (2, .int (nI x)), (3, .int (nI t))]) F (nI (i + 1)) dX1_lowestBut_65 rfl (nI_add i 1) (by decide) rfl ?_
            refine v_goto F 9 dX1_lowestBut_68 (by decide) ?_
            refine v_st (w' := wC ad G (T, n, mo, ver) Hs P Tr Rg Tx Rd) (pc' := 9) (st' := []) rfl rfl rfl [0, 1, 2, 3, 4, 5, 6] (lv' := [(6, .int (nI (i + 1))), (5, .int (oV T x (lb T x t lo i))), (4, .int (oI (lb T x t lo i))), (0, .ref (ad 1)), (1, .int lo), (2, .int (nI x)), (3, .int (nI t))]) rfl ?_
            exact ih9 (i + 1) (oI (lb T x t lo i)) (oV T x (lb T x t lo i)) (by omega) (by omega) (by first | rw [lb_a (T := T) (x := x) (t := t) (out := lo) (i := i) (by assumption)] | rw [lb_b (T := T) (x := x) (t := t) (out := lo) (i := i) (by assumption)] | rw [lb_d (T := T) (x := x) (t := t) (out := lo) (i := i) (by assumption) (by assumption)] | (rw [lb_c (T := T) (x := x) (t := t) (out := lo) (i := i) (by assumption) (by assumption) (by omega) (by assumption)]; rfl) | (rw [lb_e (T := T) (x := x) (t := t) (out := lo) (i := i) (by assumption) (by assumption) (by assumption) (by assumption)]; rfl)) (by first | rw [lb_a (T := T) (x := x) (t := t) (out := lo) (i := i) (by assumption)] | rw [lb_b (T := T) (x := x) (t := t) (out := lo) (i := i) (by assumption)] | rw [lb_d (T := T) (x := x) (t := t) (out := lo) (i := i) (by assumption) (by assumption)] | (rw [lb_c (T := T) (x := x) (t := t) (out := lo) (i := i) (by assumption) (by assumption) (by omega) (by assumption)]; rfl) | (rw [lb_e (T := T) (x := x) (t := t) (out := lo) (i := i) (by assumption) (by assumption) (by assumption) (by assumption)]; rfl))
          · replace c6 := bI_t c6
            refine v_aload_n F dX1_lowestBut_35 0 rfl rfl ?_
            refine v_iload F dX1_lowestBut_36 rfl ?_
            refine v_iload_n F dX1_lowestBut_38 2 rfl rfl ?_
            refine v_cVIF F cs_RX1_47 dX1_lowestBut_39 1 (ci := 1) rfl rfl (m_X1_valueAt lau G ad T n mo ver Hs P Tr Rg Tx Rd i x (by omega) (by omega)) (by decide) rfl rfl (Nat.le_of_ble_eq_true rfl) ⟨Nat.zero_le _, Nat.zero_le _⟩ (fun r7 u8 w9 => ?_)
            subst w9
            refine v_istore (lv' := [(7, .int (pVal T i x)), (6, .int (nI i)), (5, .int (oV T x (lb T x t lo i))), (4, .int (oI (lb T x t lo i))), (0, .ref (ad 1)), (1, .int lo), (2, .int (nI x)), (3, .int (nI t))]) F dX1_lowestBut_42 (by decide) rfl ?_
            refine v_iload F dX1_lowestBut_44 rfl ?_
            refine v_iconst (v := (-1)) F dX1_lowestBut_46 (by decide) ?_
            refine v_icmp_eq F 57 dX1_lowestBut_47 (by decide) (fun c10 => ?_) (fun c10 => ?_)
            · refine v_iload F dX1_lowestBut_57 rfl ?_
              refine v_istore (lv' := [(4, .int (nI i)), (7, .int (pVal T i x)), (6, .int (nI i)), (5, .int (oV T x (lb T x t lo i))), (0, .ref (ad 1)), (1, .int lo), (2, .int (nI x)), (3, .int (nI t))]) F dX1_lowestBut_59 (by decide) rfl ?_
              refine v_iload F dX1_lowestBut_61 rfl ?_
              refine v_istore (lv' := [(5, .int (pVal T i x)), (4, .int (nI i)), (7, .int (pVal T i x)), (6, .int (nI i)), (0, .ref (ad 1)), (1, .int lo), (2, .int (nI x)), (3, .int (nI t))]) F dX1_lowestBut_63 (by decide) rfl ?_
              refine v_iinc (lv' := [(6, .int (nI (i + 1))), (5, .int (pVal T i x)), (4, .int (nI i)), (7, .int (pVal T i x)), (0, .ref (ad 1)), (1, .int lo), (2, .int (nI x)), (3, .int (nI t))]) F (nI (i + 1)) dX1_lowestBut_65 rfl (nI_add i 1) (by decide) rfl ?_
              refine v_goto F 9 dX1_lowestBut_68 (by decide) ?_
              refine v_st (w' := wC ad G (T, n, mo, ver) Hs P Tr Rg Tx Rd) (pc' := 9) (st' := []) rfl rfl rfl [0, 1, 2, 4, 5, 6, 7] (lv' := [(6, .int (nI (i + 1))), (5, .int (pVal T i x)), (4, .int (nI i)), (0, .ref (ad 1)), (1, .int lo), (2, .int (nI x)), (3, .int (nI t))]) rfl ?_
              exact ih9 (i + 1) (nI i) (pVal T i x) (by omega) (by omega) (by first | rw [lb_a (T := T) (x := x) (t := t) (out := lo) (i := i) (by assumption)] | rw [lb_b (T := T) (x := x) (t := t) (out := lo) (i := i) (by assumption)] | rw [lb_d (T := T) (x := x) (t := t) (out := lo) (i := i) (by assumption) (by assumption)] | (rw [lb_c (T := T) (x := x) (t := t) (out := lo) (i := i) (by assumption) (by assumption) (by omega) (by assumption)]; rfl) | (rw [lb_e (T := T) (x := x) (t := t) (out := lo) (i := i) (by assumption) (by assumption) (by assumption) (by assumption)]; rfl)) (by first | rw [lb_a (T := T) (x := x) (t := t) (out := lo) (i := i) (by assumption)] | rw [lb_b (T := T) (x := x) (t := t) (out := lo) (i := i) (by assumption)] | rw [lb_d (T := T) (x := x) (t := t) (out := lo) (i := i) (by assumption) (by assumption)] | (rw [lb_c (T := T) (x := x) (t := t) (out := lo) (i := i) (by assumption) (by assumption) (by omega) (by assumption)]; rfl) | (rw [lb_e (T := T) (x := x) (t := t) (out := lo) (i := i) (by assumption) (by assumption) (by assumption) (by assumption)]; rfl))
            · refine v_iload F dX1_lowestBut_50 rfl ?_
              refine v_iload F dX1_lowestBut_52 rfl ?_
              refine v_icmp_ge F 65 dX1_lowestBut_54 (by decide) (fun c11 => ?_) (fun c11 => ?_)
              · refine v_iinc (lv' := [(6, .int (nI (i + 1))), (7, .int (pVal T i x)), (5, .int (oV T x (lb T x t lo i))), (4, .int (oI (lb T x t lo i))), (0, .ref (ad 1)), (1, .int lo), (2, .int (nI x)), (3, .int (nI t))]) F (nI (i + 1)) dX1_lowestBut_65 rfl (nI_add i 1) (by decide) rfl ?_
                refine v_goto F 9 dX1_lowestBut_68 (by decide) ?_
                refine v_st (w' := wC ad G (T, n, mo, ver) Hs P Tr Rg Tx Rd) (pc' := 9) (st' := []) rfl rfl rfl [0, 2, 3, 4, 5, 6, 7] (lv' := [(6, .int (nI (i + 1))), (5, .int (oV T x (lb T x t lo i))), (4, .int (oI (lb T x t lo i))), (0, .ref (ad 1)), (1, .int lo), (2, .int (nI x)), (3, .int (nI t))]) rfl ?_
                exact ih9 (i + 1) (oI (lb T x t lo i)) (oV T x (lb T x t lo i)) (by omega) (by omega) (by first | rw [lb_a (T := T) (x := x) (t := t) (out := lo) (i := i) (by assumption)] | rw [lb_b (T := T) (x := x) (t := t) (out := lo) (i := i) (by assumption)] | rw [lb_d (T := T) (x := x) (t := t) (out := lo) (i := i) (by assumption) (by assumption)] | (rw [lb_c (T := T) (x := x) (t := t) (out := lo) (i := i) (by assumption) (by assumption) (by omega) (by assumption)]; rfl) | (rw [lb_e (T := T) (x := x) (t := t) (out := lo) (i := i) (by assumption) (by assumption) (by assumption) (by assumption)]; rfl)) (by first | rw [lb_a (T := T) (x := x) (t := t) (out := lo) (i := i) (by assumption)] | rw [lb_b (T := T) (x := x) (t := t) (out := lo) (i := i) (by assumption)] | rw [lb_d (T := T) (x := x) (t := t) (out := lo) (i := i) (by assumption) (by assumption)] | (rw [lb_c (T := T) (x := x) (t := t) (out := lo) (i := i) (by assumption) (by assumption) (by omega) (by assumption)]; rfl) | (rw [lb_e (T := T) (x := x) (t := t) (out := lo) (i := i) (by assumption) (by assumption) (by assumption) (by assumption)]; rfl))
              · refine v_iload F dX1_lowestBut_57 rfl ?_
                refine v_istore (lv' := [(4, .int (nI i)), (7, .int (pVal T i x)), (6, .int (nI i)), (5, .int (oV T x (lb T x t lo i))), (0, .ref (ad 1)), (1, .int lo), (2, .int (nI x)), (3, .int (nI t))]) F dX1_lowestBut_59 (by decide) rfl ?_
                refine v_iload F dX1_lowestBut_61 rfl ?_
                refine v_istore (lv' := [(5, .int (pVal T i x)), (4, .int (nI i)), (7, .int (pVal T i x)), (6, .int (nI i)), (0, .ref (ad 1)), (1, .int lo), (2, .int (nI x)), (3, .int (nI t))]) F dX1_lowestBut_63 (by decide) rfl ?_
                refine v_iinc (lv' := [(6, .int (nI (i + 1))), (5, .int (pVal T i x)), (4, .int (nI i)), (7, .int (pVal T i x)), (0, .ref (ad 1)), (1, .int lo), (2, .int (nI x)), (3, .int (nI t))]) F (nI (i + 1)) dX1_lowestBut_65 rfl (nI_add i 1) (by decide) rfl ?_
                refine v_goto F 9 dX1_lowestBut_68 (by decide) ?_
                refine v_st (w' := wC ad G (T, n, mo, ver) Hs P Tr Rg Tx Rd) (pc' := 9) (st' := []) rfl rfl rfl [0, 1, 2, 4, 5, 6, 7] (lv' := [(6, .int (nI (i + 1))), (5, .int (pVal T i x)), (4, .int (nI i)), (0, .ref (ad 1)), (1, .int lo), (2, .int (nI x)), (3, .int (nI t))]) rfl ?_
                exact ih9 (i + 1) (nI i) (pVal T i x) (by omega) (by omega) (by first | rw [lb_a (T := T) (x := x) (t := t) (out := lo) (i := i) (by assumption)] | rw [lb_b (T := T) (x := x) (t := t) (out := lo) (i := i) (by assumption)] | rw [lb_d (T := T) (x := x) (t := t) (out := lo) (i := i) (by assumption) (by assumption)] | (rw [lb_c (T := T) (x := x) (t := t) (out := lo) (i := i) (by assumption) (by assumption) (by omega) (by assumption)]; rfl) | (rw [lb_e (T := T) (x := x) (t := t) (out := lo) (i := i) (by assumption) (by assumption) (by assumption) (by assumption)]; rfl)) (by first | rw [lb_a (T := T) (x := x) (t := t) (out := lo) (i := i) (by assumption)] | rw [lb_b (T := T) (x := x) (t := t) (out := lo) (i := i) (by assumption)] | rw [lb_d (T := T) (x := x) (t := t) (out := lo) (i := i) (by assumption) (by assumption)] | (rw [lb_c (T := T) (x := x) (t := t) (out := lo) (i := i) (by assumption) (by assumption) (by omega) (by assumption)]; rfl) | (rw [lb_e (T := T) (x := x) (t := t) (out := lo) (i := i) (by assumption) (by assumption) (by assumption) (by assumption)]; rfl))
  refine v_st (w' := wC ad G (T, n, mo, ver) Hs P Tr Rg Tx Rd) (pc' := 9) (st' := []) rfl rfl rfl [0, 1, 2, 3, 4, 5, 6] (lv' := [(6, .int (nI 0)), (5, .int (nI 0)), (4, .int (-1)), (0, .ref (ad 1)), (1, .int lo), (2, .int (nI x)), (3, .int (nI t))]) rfl ?_
  exact L9 _ 0 (-1) (nI 0) (Nat.lt_succ_self _) (by omega) (rfl) (rfl)
