set_option maxHeartbeats 4000000 in
set_option maxRecDepth 100000 in
theorem m_X1_size (lau : Launch) (G : GT) (ad : Nat → Nat) (T : Nat → Int32) (n mo : Nat) (ver : Int32) (Hs : HT) (P : PT) (Tr : TT) (Rg : RT) (Tx : XT) (Rd : DT) : MI lau G 0 yX1_size cX1_size 1 (some .int) [.ref (ad 1)] (wC ad G (T, n, mo, ver) Hs P Tr Rg Tx Rd) (fun u : Unit => wC ad G (T, n, mo, ver) Hs P Tr Rg Tx Rd) (fun r u => r = nI n) := by
  refine mi_of (by decide +kernel) (Nat.le_of_ble_eq_true rfl) ?_
  intro p e s m args below meth c A Q F hr hlk hQ
  refine v_st (w' := wC ad G (T, n, mo, ver) Hs P Tr Rg Tx Rd) (pc' := 0) (st' := []) rfl rfl rfl [0] (lv' := [(0, .ref (ad 1))]) rfl ?_
  refine v_aload_n F dX1_size_0 0 rfl rfl ?_
  refine v_get (v := .int (nI n)) F inlX1 (ci := 1) rfl 1 (by decide) rfl wF_RX1_15 dX1_size_1 1 rfl rfl ?_
  exact v_iret F hr hlk hQ dX1_size_4 (()) rfl (by first | rfl | (simp; done))
set_option maxHeartbeats 4000000 in
set_option maxRecDepth 100000 in
theorem m_X1_moment (lau : Launch) (G : GT) (ad : Nat → Nat) (T : Nat → Int32) (n mo : Nat) (ver : Int32) (Hs : HT) (P : PT) (Tr : TT) (Rg : RT) (Tx : XT) (Rd : DT) : MI lau G 0 yX1_moment cX1_moment 1 (some .int) [.ref (ad 1)] (wC ad G (T, n, mo, ver) Hs P Tr Rg Tx Rd) (fun u : Unit => wC ad G (T, n, mo, ver) Hs P Tr Rg Tx Rd) (fun r u => r = nI mo) := by
  refine mi_of (by decide +kernel) (Nat.le_of_ble_eq_true rfl) ?_
  intro p e s m args below meth c A Q F hr hlk hQ
  refine v_st (w' := wC ad G (T, n, mo, ver) Hs P Tr Rg Tx Rd) (pc' := 0) (st' := []) rfl rfl rfl [0] (lv' := [(0, .ref (ad 1))]) rfl ?_
  refine v_aload_n F dX1_moment_0 0 rfl rfl ?_
  refine v_get (v := .int (nI mo)) F inlX1 (ci := 1) rfl 2 (by decide) rfl wF_RX1_19 dX1_moment_1 1 rfl rfl ?_
  exact v_iret F hr hlk hQ dX1_moment_4 (()) rfl (by first | rfl | (simp; done))
set_option maxHeartbeats 4000000 in
set_option maxRecDepth 100000 in
theorem m_X1_version (lau : Launch) (G : GT) (ad : Nat → Nat) (T : Nat → Int32) (n mo : Nat) (ver : Int32) (Hs : HT) (P : PT) (Tr : TT) (Rg : RT) (Tx : XT) (Rd : DT) : MI lau G 0 yX1_version cX1_version 1 (some .int) [.ref (ad 1)] (wC ad G (T, n, mo, ver) Hs P Tr Rg Tx Rd) (fun u : Unit => wC ad G (T, n, mo, ver) Hs P Tr Rg Tx Rd) (fun r u => r = ver) := by
  refine mi_of (by decide +kernel) (Nat.le_of_ble_eq_true rfl) ?_
  intro p e s m args below meth c A Q F hr hlk hQ
  refine v_st (w' := wC ad G (T, n, mo, ver) Hs P Tr Rg Tx Rd) (pc' := 0) (st' := []) rfl rfl rfl [0] (lv' := [(0, .ref (ad 1))]) rfl ?_
  refine v_aload_n F dX1_version_0 0 rfl rfl ?_
  refine v_get (v := .int ver) F inlX1 (ci := 1) rfl 3 (by decide) rfl wF_RX1_22 dX1_version_1 1 rfl rfl ?_
  exact v_iret F hr hlk hQ dX1_version_4 (()) rfl (by first | rfl | (simp; done))
set_option maxHeartbeats 4000000 in
set_option maxRecDepth 100000 in
theorem m_X1_has (lau : Launch) (G : GT) (ad : Nat → Nat) (T : Nat → Int32) (n mo : Nat) (ver : Int32) (Hs : HT) (P : PT) (Tr : TT) (Rg : RT) (Tx : XT) (Rd : DT) (line : Int32) : MI lau G 0 yX1_has cX1_has 2 (some .boolean) [.ref (ad 1), .int line] (wC ad G (T, n, mo, ver) Hs P Tr Rg Tx Rd) (fun u : Unit => wC ad G (T, n, mo, ver) Hs P Tr Rg Tx Rd) (fun r u => r = bI (hasB n line)) := by
  refine mi_of (by decide +kernel) (Nat.le_of_ble_eq_true rfl) ?_
  intro p e s m args below meth c A Q F hr hlk hQ
  refine v_st (w' := wC ad G (T, n, mo, ver) Hs P Tr Rg Tx Rd) (pc' := 0) (st' := []) rfl rfl rfl [0, 1] (lv' := [(0, .ref (ad 1)), (1, .int line)]) rfl ?_
  refine v_iload_n F dX1_has_0 1 rfl rfl ?_
  refine v_if_lt F 16 dX1_has_1 (by decide) (fun c1 => ?_) (fun c1 => ?_)
  · refine v_iconst (v := nI 0) F dX1_has_16 (by decide) ?_
    exact v_zret F hr hlk hQ rfl dX1_has_17 (()) rfl (by first | exact hasB_a (by assumption) | exact hasB_c (by assumption) (by assumption) | exact hasB_b (by assumption))
  · refine v_iload_n F dX1_has_4 1 rfl rfl ?_
    refine v_aload_n F dX1_has_5 0 rfl rfl ?_
    refine v_get (v := .int (nI n)) F inlX1 (ci := 1) rfl 1 (by decide) rfl wF_RX1_15 dX1_has_6 1 rfl rfl ?_
    refine v_icmp_ge F 16 dX1_has_9 (by decide) (fun c2 => ?_) (fun c2 => ?_)
    · refine v_iconst (v := nI 0) F dX1_has_16 (by decide) ?_
      exact v_zret F hr hlk hQ rfl dX1_has_17 (()) rfl (by first | exact hasB_a (by assumption) | exact hasB_c (by assumption) (by assumption) | exact hasB_b (by assumption))
    · refine v_iconst (v := nI 1) F dX1_has_12 (by decide) ?_
      refine v_goto F 17 dX1_has_13 (by decide) ?_
      exact v_zret F hr hlk hQ rfl dX1_has_17 (()) rfl (by first | exact hasB_a (by assumption) | exact hasB_c (by assumption) (by assumption) | exact hasB_b (by assumption))
set_option maxHeartbeats 4000000 in
set_option maxRecDepth 100000 in
theorem m_X1_property (lau : Launch) (G : GT) (ad : Nat → Nat) (T : Nat → Int32) (n mo : Nat) (ver : Int32) (Hs : HT) (P : PT) (Tr : TT) (Rg : RT) (Tx : XT) (Rd : DT) (l k : Nat) (hl : l < n) (hk : k < 6) (hn : n ≤ 20) : MI lau G 0 yX1_property cX1_property 3 (some .int) [.ref (ad 1), .int (nI l), .int (nI k)] (wC ad G (T, n, mo, ver) Hs P Tr Rg Tx Rd) (fun u : Unit => wC ad G (T, n, mo, ver) Hs P Tr Rg Tx Rd) (fun r u => r = (T ((l * 6) + k))) := by
  refine mi_of (by decide +kernel) (Nat.le_of_ble_eq_true rfl) ?_
  intro p e s m args below meth c A Q F hr hlk hQ
  refine v_st (w' := wC ad G (T, n, mo, ver) Hs P Tr Rg Tx Rd) (pc' := 0) (st' := []) rfl rfl rfl [0, 1, 2] (lv' := [(0, .ref (ad 1)), (1, .int (nI l)), (2, .int (nI k))]) rfl ?_
  refine v_iload_n F dX1_property_0 1 rfl rfl ?_
  refine v_if_lt F 22 dX1_property_1 (by decide) (fun c1 => ?_) (fun c1 => ?_)
  · replace c1 := nL (a := l) (b := 0) (by omega) (by decide) c1
    exact absurd c1 (Nat.not_lt_zero _)
  · replace c1 := nLn (a := l) (b := 0) (by omega) (by decide) c1
    refine v_iload_n F dX1_property_4 1 rfl rfl ?_
    refine v_aload_n F dX1_property_5 0 rfl rfl ?_
    refine v_get (v := .int (nI n)) F inlX1 (ci := 1) rfl 1 (by decide) rfl wF_RX1_15 dX1_property_6 1 rfl rfl ?_
    refine v_icmp_ge F 22 dX1_property_9 (by decide) (fun c2 => ?_) (fun c2 => ?_)
    · replace c2 := nG (a := l) (b := n) (by omega) (by omega) c2
      omega
    · replace c2 := nGn (a := l) (b := n) (by omega) (by omega) c2
      refine v_iload_n F dX1_property_12 2 rfl rfl ?_
      refine v_if_lt F 22 dX1_property_13 (by decide) (fun c3 => ?_) (fun c3 => ?_)
      · replace c3 := nL (a := k) (b := 0) (by omega) (by decide) c3
        exact absurd c3 (Nat.not_lt_zero _)
      · replace c3 := nLn (a := k) (b := 0) (by omega) (by decide) c3
        refine v_iload_n F dX1_property_16 2 rfl rfl ?_
        refine v_bipush (v := nI 6) F dX1_property_17 (by decide) ?_
        refine v_icmp_lt F 24 dX1_property_19 (by decide) (fun c4 => ?_) (fun c4 => ?_)
        · replace c4 := nL (a := k) (b := 6) (by omega) (by decide) c4
          refine v_aload_n F dX1_property_24 0 rfl rfl ?_
          refine v_get (v := .ref (ad 8)) F inlX1 (ci := 1) rfl 0 (by decide) rfl wF_RX1_9 dX1_property_25 1 rfl rfl ?_
          refine v_iload_n F dX1_property_28 1 rfl rfl ?_
          refine v_bipush (v := nI 6) F dX1_property_29 (by decide) ?_
          refine v_imul F dX1_property_31 ?_
          refine v_topi (nI (l * 6)) (pk_mul l 6) ?_
          refine v_iload_n F dX1_property_32 2 rfl rfl ?_
          refine v_iadd F dX1_property_33 ?_
          refine v_topi (nI ((l * 6) + k)) (nI_add (l * 6) k) ?_
          refine v_ialdN F dX1_property_34 8 rfl ((l * 6) + k) rfl (by omega) (by decide) (T ((l * 6) + k)) rfl ?_
          exact v_iret F hr hlk hQ dX1_property_35 (()) rfl (by first | rfl | (simp; done))
        · replace c4 := nLn (a := k) (b := 6) (by omega) (by decide) c4
          omega
theorem cs_RX1_25 : CSV RX1 25 RX1 yX1_has cX1_has 2 (some .boolean) 1 := ⟨wC_yX1_has, wM_RX1_25, wIm_yX1_has, wSe_yX1_has, wI_RX1, by decide +kernel, by decide⟩
set_option maxHeartbeats 4000000 in
set_option maxRecDepth 100000 in
theorem m_X1_change (lau : Launch) (G : GT) (ad : Nat → Nat) (T : Nat → Int32) (n mo : Nat) (ver : Int32) (Hs : HT) (P : PT) (Tr : TT) (Rg : RT) (Tx : XT) (Rd : DT) (l k : Nat) (x : Int32) (hl : l < n) (hk : k < 6) (hn : n ≤ 20) : MV lau G 1 yX1_change cX1_change 4 none [.ref (ad 1), .int (nI l), .int (nI k), .int x] (wC ad G (T, n, mo, ver) Hs P Tr Rg Tx Rd) (fun u : Unit => wC ad G (upd T ((l * 6) + k) x, n, mo, ver + nI 1) Hs P Tr Rg Tx Rd) (fun u => True) := by
  refine mv_of (by decide +kernel) (Nat.le_of_ble_eq_true rfl) ?_
  intro p e s m args below meth c A Q F hr hlk hQ
  refine v_st (w' := wC ad G (T, n, mo, ver) Hs P Tr Rg Tx Rd) (pc' := 0) (st' := []) rfl rfl rfl [0, 1, 2, 3] (lv' := [(0, .ref (ad 1)), (1, .int (nI l)), (2, .int (nI k)), (3, .int x)]) rfl ?_
  refine v_aload_n F dX1_change_0 0 rfl rfl ?_
  refine v_iload_n F dX1_change_1 1 rfl rfl ?_
  refine v_cVIF F cs_RX1_25 dX1_change_2 1 (ci := 1) rfl rfl (m_X1_has lau G ad T n mo ver Hs P Tr Rg Tx Rd (nI l) ) (by decide) rfl rfl (by decide) ⟨Nat.zero_le _, Nat.zero_le _⟩ (fun r1 u2 w3 => ?_)
  subst w3
  refine v_topi (bI true) (hasB_t (by omega) (by omega)) ?_
  refine v_if_eq F 40 dX1_change_5 (by decide) (fun h => absurd h (by decide)) (fun _ => ?_)
  refine v_iload_n F dX1_change_8 2 rfl rfl ?_
  refine v_if_lt F 40 dX1_change_9 (by decide) (fun c4 => ?_) (fun c4 => ?_)
  · replace c4 := nL (a := k) (b := 0) (by omega) (by decide) c4
    exact absurd c4 (Nat.not_lt_zero _)
  · replace c4 := nLn (a := k) (b := 0) (by omega) (by decide) c4
    refine v_iload_n F dX1_change_12 2 rfl rfl ?_
    refine v_bipush (v := nI 6) F dX1_change_13 (by decide) ?_
    refine v_icmp_ge F 40 dX1_change_15 (by decide) (fun c5 => ?_) (fun c5 => ?_)
    · replace c5 := nG (a := k) (b := 6) (by omega) (by decide) c5
      omega
    · replace c5 := nGn (a := k) (b := 6) (by omega) (by decide) c5
      refine v_aload_n F dX1_change_18 0 rfl rfl ?_
      refine v_get (v := .ref (ad 8)) F inlX1 (ci := 1) rfl 0 (by decide) rfl wF_RX1_9 dX1_change_19 1 rfl rfl ?_
      refine v_iload_n F dX1_change_22 1 rfl rfl ?_
      refine v_bipush (v := nI 6) F dX1_change_23 (by decide) ?_
      refine v_imul F dX1_change_25 ?_
      refine v_topi (nI (l * 6)) (pk_mul l 6) ?_
      refine v_iload_n F dX1_change_26 2 rfl rfl ?_
      refine v_iadd F dX1_change_27 ?_
      refine v_topi (nI ((l * 6) + k)) (nI_add (l * 6) k) ?_
      refine v_iload_n F dX1_change_28 3 rfl rfl ?_
      refine v_iastN F dX1_change_29 8 rfl ((l * 6) + k) rfl (by omega) (by decide) (wC ad G (upd T ((l * 6) + k) x, n, mo, ver) Hs P Tr Rg Tx Rd) rfl ?_
      refine v_aload_n F dX1_change_30 0 rfl rfl ?_
      refine v_dup F dX1_change_31 rfl ?_
      refine v_get (v := .int ver) F inlX1 (ci := 1) rfl 3 (by decide) rfl wF_RX1_22 dX1_change_32 1 rfl rfl ?_
      refine v_iconst (v := nI 1) F dX1_change_35 (by decide) ?_
      refine v_iadd F dX1_change_36 ?_
      refine v_put F inlX1 (ci := 1) rfl tyX1 tyX1_ok nmX1 3 (by decide) rfl rfl wF_RX1_22 dX1_change_37 (ty := .int) (by decide +kernel) rfl rfl 1 rfl (Nat.le_of_ble_eq_true rfl) (wC ad G (upd T ((l * 6) + k) x, n, mo, (ver + nI 1)) Hs P Tr Rg Tx Rd) rfl ?_
      exact v_vret F hr hlk hQ dX1_change_40 (()) rfl (by trivial)
theorem cs_RX1_29 : CSV RX1 29 RX1 yX1_change cX1_change 4 none 3 := ⟨wC_yX1_change, wM_RX1_29, wIm_yX1_change, wSe_yX1_change, wI_RX1, by decide +kernel, by decide⟩
set_option maxHeartbeats 4000000 in
set_option maxRecDepth 100000 in
theorem m_X1_addLine (lau : Launch) (G : GT) (ad : Nat → Nat) (T : Nat → Int32) (n mo : Nat) (ver : Int32) (Hs : HT) (P : PT) (Tr : TT) (Rg : RT) (Tx : XT) (Rd : DT) (sl of fm lm : Int32) (hn : n < 20) : MV lau G 2 yX1_addLine cX1_addLine 6 none [.ref (ad 1), .int sl, .int of, .int fm, .int lm] (wC ad G (T, n, mo, ver) Hs P Tr Rg Tx Rd) (fun u : Unit => wC ad G (pAdd T n sl of fm lm, n + 1, mo, ver + nI 1 + nI 1 + nI 1 + nI 1 + nI 1 + nI 1) Hs P Tr Rg Tx Rd) (fun u => True) := by
  refine mv_of (by decide +kernel) (Nat.le_of_ble_eq_true rfl) ?_
  intro p e s m args below meth c A Q F hr hlk hQ
  refine v_st (w' := wC ad G (T, n, mo, ver) Hs P Tr Rg Tx Rd) (pc' := 0) (st' := []) rfl rfl rfl [0, 1, 2, 3, 4] (lv' := [(0, .ref (ad 1)), (1, .int sl), (2, .int of), (3, .int fm), (4, .int lm)]) rfl ?_
  refine v_aload_n F dX1_addLine_0 0 rfl rfl ?_
  refine v_get (v := .int (nI n)) F inlX1 (ci := 1) rfl 1 (by decide) rfl wF_RX1_15 dX1_addLine_1 1 rfl rfl ?_
  refine v_bipush (v := nI 20) F dX1_addLine_4 (by decide) ?_
  refine v_icmp_lt F 10 dX1_addLine_6 (by decide) (fun c1 => ?_) (fun c1 => ?_)
  · replace c1 := nL (a := n) (b := 20) (by omega) (by decide) c1
    refine v_aload_n F dX1_addLine_10 0 rfl rfl ?_
    refine v_get (v := .int (nI n)) F inlX1 (ci := 1) rfl 1 (by decide) rfl wF_RX1_15 dX1_addLine_11 1 rfl rfl ?_
    refine v_istore (lv' := [(5, .int (nI n)), (0, .ref (ad 1)), (1, .int sl), (2, .int of), (3, .int fm), (4, .int lm)]) F dX1_addLine_14 (by decide) rfl ?_
    refine v_aload_n F dX1_addLine_16 0 rfl rfl ?_
    refine v_dup F dX1_addLine_17 rfl ?_
    refine v_get (v := .int (nI n)) F inlX1 (ci := 1) rfl 1 (by decide) rfl wF_RX1_15 dX1_addLine_18 1 rfl rfl ?_
    refine v_iconst (v := nI 1) F dX1_addLine_21 (by decide) ?_
    refine v_iadd F dX1_addLine_22 ?_
    refine v_topi (nI (n + 1)) (nI_add n 1) ?_
    refine v_put F inlX1 (ci := 1) rfl tyX1 tyX1_ok nmX1 1 (by decide) rfl rfl wF_RX1_15 dX1_addLine_23 (ty := .int) (by decide +kernel) rfl rfl 1 rfl (Nat.le_of_ble_eq_true rfl) (wC ad G (T, n + 1, mo, ver) Hs P Tr Rg Tx Rd) rfl ?_
    refine v_aload_n F dX1_addLine_26 0 rfl rfl ?_
    refine v_iload F dX1_addLine_27 rfl ?_
    refine v_iconst (v := nI 0) F dX1_addLine_29 (by decide) ?_
    refine v_iload_n F dX1_addLine_30 1 rfl rfl ?_
    refine v_cVVF F cs_RX1_29 dX1_addLine_31 1 (ci := 1) rfl rfl (m_X1_change lau G ad T (n + 1) mo ver Hs P Tr Rg Tx Rd n 0 sl (by omega) (by omega) (by omega)) (by decide) rfl rfl (by decide) ⟨Nat.zero_le _, Nat.zero_le _⟩ (fun u3 w4 => ?_)
    refine v_aload_n F dX1_addLine_34 0 rfl rfl ?_
    refine v_iload F dX1_addLine_35 rfl ?_
    refine v_iconst (v := nI 1) F dX1_addLine_37 (by decide) ?_
    refine v_iload_n F dX1_addLine_38 2 rfl rfl ?_
    refine v_cVVF F cs_RX1_29 dX1_addLine_39 1 (ci := 1) rfl rfl (m_X1_change lau G ad (upd T ((n * 6) + 0) sl) (n + 1) mo (ver + nI 1) Hs P Tr Rg Tx Rd n 1 of (by omega) (by omega) (by omega)) (by decide) rfl rfl (by decide) ⟨Nat.zero_le _, Nat.zero_le _⟩ (fun u6 w7 => ?_)
    refine v_aload_n F dX1_addLine_42 0 rfl rfl ?_
    refine v_iload F dX1_addLine_43 rfl ?_
    refine v_iconst (v := nI 2) F dX1_addLine_45 (by decide) ?_
    refine v_iconst (v := nI 0) F dX1_addLine_46 (by decide) ?_
    refine v_cVVF F cs_RX1_29 dX1_addLine_47 1 (ci := 1) rfl rfl (m_X1_change lau G ad (upd (upd T ((n * 6) + 0) sl) ((n * 6) + 1) of) ((n + 1)) mo ((ver + nI 1) + nI 1) Hs P Tr Rg Tx Rd n 2 (nI 0) (by omega) (by omega) (by omega)) (by decide) rfl rfl (by decide) ⟨Nat.zero_le _, Nat.zero_le _⟩ (fun u9 w10 => ?_)
    refine v_aload_n F dX1_addLine_50 0 rfl rfl ?_
    refine v_iload F dX1_addLine_51 rfl ?_
    refine v_iconst (v := nI 3) F dX1_addLine_53 (by decide) ?_
    refine v_bipush (v := nI 63) F dX1_addLine_54 (by decide) ?_
    refine v_cVVF F cs_RX1_29 dX1_addLine_56 1 (ci := 1) rfl rfl (m_X1_change lau G ad (upd (upd (upd T ((n * 6) + 0) sl) ((n * 6) + 1) of) ((n * 6) + 2) (nI 0)) (((n + 1))) mo (((ver + nI 1) + nI 1) + nI 1) Hs P Tr Rg Tx Rd n 3 (nI 63) (by omega) (by omega) (by omega)) (by decide) rfl rfl (by decide) ⟨Nat.zero_le _, Nat.zero_le _⟩ (fun u12 w13 => ?_)
    refine v_aload_n F dX1_addLine_59 0 rfl rfl ?_
    refine v_iload F dX1_addLine_60 rfl ?_
    refine v_iconst (v := nI 4) F dX1_addLine_62 (by decide) ?_
    refine v_iload_n F dX1_addLine_63 3 rfl rfl ?_
    refine v_cVVF F cs_RX1_29 dX1_addLine_64 1 (ci := 1) rfl rfl (m_X1_change lau G ad (upd (upd (upd (upd T ((n * 6) + 0) sl) ((n * 6) + 1) of) ((n * 6) + 2) (nI 0)) ((n * 6) + 3) (nI 63)) ((((n + 1)))) mo ((((ver + nI 1) + nI 1) + nI 1) + nI 1) Hs P Tr Rg Tx Rd n 4 fm (by omega) (by omega) (by omega)) (by decide) rfl rfl (by decide) ⟨Nat.zero_le _, Nat.zero_le _⟩ (fun u15 w16 => ?_)
    refine v_aload_n F dX1_addLine_67 0 rfl rfl ?_
    refine v_iload F dX1_addLine_68 rfl ?_
    refine v_iconst (v := nI 5) F dX1_addLine_70 (by decide) ?_
    refine v_iload F dX1_addLine_71 rfl ?_
    refine v_cVVF F cs_RX1_29 dX1_addLine_73 1 (ci := 1) rfl rfl (m_X1_change lau G ad (upd (upd (upd (upd (upd T ((n * 6) + 0) sl) ((n * 6) + 1) of) ((n * 6) + 2) (nI 0)) ((n * 6) + 3) (nI 63)) ((n * 6) + 4) fm) (((((n + 1))))) mo (((((ver + nI 1) + nI 1) + nI 1) + nI 1) + nI 1) Hs P Tr Rg Tx Rd n 5 lm (by omega) (by omega) (by omega)) (by decide) rfl rfl (by decide) ⟨Nat.zero_le _, Nat.zero_le _⟩ (fun u18 w19 => ?_)
    exact v_vret F hr hlk hQ dX1_addLine_76 (()) rfl (by trivial)
  · replace c1 := nLn (a := n) (b := 20) (by omega) (by decide) c1
    omega
set_option maxHeartbeats 4000000 in
set_option maxRecDepth 100000 in
theorem m_X1_drop (lau : Launch) (G : GT) (ad : Nat → Nat) (T : Nat → Int32) (n mo : Nat) (ver : Int32) (Hs : HT) (P : PT) (Tr : TT) (Rg : RT) (Tx : XT) (Rd : DT) (l : Nat) (hl : l < n) (hn : n ≤ 20) : MV lau G 2 yX1_drop cX1_drop 3 none [.ref (ad 1), .int (nI l)] (wC ad G (T, n, mo, ver) Hs P Tr Rg Tx Rd) (fun u : Unit => wC ad G (pDrop T n l, n - 1, mo, ver + nI 1) Hs P Tr Rg Tx Rd) (fun u => True) := by
  refine mv_of (by decide +kernel) (Nat.le_of_ble_eq_true rfl) ?_
  intro p e s m args below meth c A Q F hr hlk hQ
  refine v_st (w' := wC ad G (T, n, mo, ver) Hs P Tr Rg Tx Rd) (pc' := 0) (st' := []) rfl rfl rfl [0, 1] (lv' := [(0, .ref (ad 1)), (1, .int (nI l))]) rfl ?_
  refine v_aload_n F dX1_drop_0 0 rfl rfl ?_
  refine v_iload_n F dX1_drop_1 1 rfl rfl ?_
  refine v_cVIF F cs_RX1_25 dX1_drop_2 1 (ci := 1) rfl rfl (m_X1_has lau G ad T n mo ver Hs P Tr Rg Tx Rd (nI l) ) (by decide) rfl rfl (by decide) ⟨Nat.zero_le _, Nat.zero_le _⟩ (fun r1 u2 w3 => ?_)
  subst w3
  refine v_topi (bI true) (hasB_t (by omega) (by omega)) ?_
  refine v_if_ne F 9 dX1_drop_5 (by decide) (fun _ => ?_) (fun h => absurd h (by decide))
  refine v_iload_n F dX1_drop_9 1 rfl rfl ?_
  refine v_iconst (v := nI 1) F dX1_drop_10 (by decide) ?_
  refine v_iadd F dX1_drop_11 ?_
  refine v_topi (nI (l + 1)) (nI_add l 1) ?_
  refine v_bipush (v := nI 6) F dX1_drop_12 (by decide) ?_
  refine v_imul F dX1_drop_14 ?_
  refine v_topi (nI ((l + 1) * 6)) (pk_mul (l + 1) 6) ?_
  refine v_istore_n (lv' := [(2, .int (nI ((l + 1) * 6))), (0, .ref (ad 1)), (1, .int (nI l))]) F dX1_drop_15 2 rfl (by decide) rfl ?_
  refine v_aload_n F dX1_drop_16 0 rfl rfl ?_
  refine v_get (v := .ref (ad 8)) F inlX1 (ci := 1) rfl 0 (by decide) rfl wF_RX1_9 dX1_drop_17 1 rfl rfl ?_
  refine v_iload_n F dX1_drop_20 2 rfl rfl ?_
  refine v_aload_n F dX1_drop_21 0 rfl rfl ?_
  refine v_get (v := .ref (ad 8)) F inlX1 (ci := 1) rfl 0 (by decide) rfl wF_RX1_9 dX1_drop_22 1 rfl rfl ?_
  refine v_iload_n F dX1_drop_25 1 rfl rfl ?_
  refine v_bipush (v := nI 6) F dX1_drop_26 (by decide) ?_
  refine v_imul F dX1_drop_28 ?_
  refine v_topi (nI (l * 6)) (pk_mul l 6) ?_
  refine v_aload_n F dX1_drop_29 0 rfl rfl ?_
  refine v_get (v := .int (nI n)) F inlX1 (ci := 1) rfl 1 (by decide) rfl wF_RX1_15 dX1_drop_30 1 rfl rfl ?_
  refine v_bipush (v := nI 6) F dX1_drop_33 (by decide) ?_
  refine v_imul F dX1_drop_35 ?_
  refine v_topi (nI (n * 6)) (pk_mul n 6) ?_
  refine v_iload_n F dX1_drop_36 2 rfl rfl ?_
  refine v_isub F dX1_drop_37 ?_
  refine v_topi (nI ((n * 6) - ((l + 1) * 6))) (pk_sub (by omega)) ?_
  refine v_copyN F wM_RX1_33 wNa_arraycopyName wSt_arraycopyName wI_RJ10 dX1_drop_38 8 8 rfl rfl ((l + 1) * 6) (l * 6) ((n * 6) - ((l + 1) * 6)) rfl rfl rfl (by omega) (by omega) (by decide) (by decide) (by have := F.2.2.2.2.2.2.2.1; simp at this ⊢) (by have := F.2.2.2.2.2.2.2.2; simp [nativeFrameWords, Value.category] at this ⊢) (wC ad G (va_cpy T T ((l + 1) * 6) (l * 6) ((n * 6) - ((l + 1) * 6)), n, mo, ver) Hs P Tr Rg Tx Rd) rfl ?_
  refine v_aload_n F dX1_drop_41 0 rfl rfl ?_
  refine v_dup F dX1_drop_42 rfl ?_
  refine v_get (v := .int (nI n)) F inlX1 (ci := 1) rfl 1 (by decide) rfl wF_RX1_15 dX1_drop_43 1 rfl rfl ?_
  refine v_iconst (v := nI 1) F dX1_drop_46 (by decide) ?_
  refine v_isub F dX1_drop_47 ?_
  refine v_topi (nI (n - 1)) (pk_sub (by omega)) ?_
  refine v_put F inlX1 (ci := 1) rfl tyX1 tyX1_ok nmX1 1 (by decide) rfl rfl wF_RX1_15 dX1_drop_48 (ty := .int) (by decide +kernel) rfl rfl 1 rfl (Nat.le_of_ble_eq_true rfl) (wC ad G (va_cpy T T ((l + 1) * 6) (l * 6) ((n * 6) - ((l + 1) * 6)), n - 1, mo, ver) Hs P Tr Rg Tx Rd) rfl ?_
  refine v_aload_n F dX1_drop_51 0 rfl rfl ?_
  refine v_dup F dX1_drop_52 rfl ?_
  refine v_get (v := .int ver) F inlX1 (ci := 1) rfl 3 (by decide) rfl wF_RX1_22 dX1_drop_53 1 rfl rfl ?_
  refine v_iconst (v := nI 1) F dX1_drop_56 (by decide) ?_
  refine v_iadd F dX1_drop_57 ?_
  refine v_put F inlX1 (ci := 1) rfl tyX1 tyX1_ok nmX1 3 (by decide) rfl rfl wF_RX1_22 dX1_drop_58 (ty := .int) (by decide +kernel) rfl rfl 1 rfl (Nat.le_of_ble_eq_true rfl) (wC ad G (va_cpy T T ((l + 1) * 6) (l * 6) ((n * 6) - ((l + 1) * 6)), n - 1, mo, (ver + nI 1)) Hs P Tr Rg Tx Rd) rfl ?_
  exact v_vret F hr hlk hQ dX1_drop_61 (()) rfl (by trivial)
set_option maxHeartbeats 4000000 in
set_option maxRecDepth 100000 in
theorem m_X1_moveTo (lau : Launch) (G : GT) (ad : Nat → Nat) (T : Nat → Int32) (n mo : Nat) (ver : Int32) (Hs : HT) (P : PT) (Tr : TT) (Rg : RT) (Tx : XT) (Rd : DT) (mm : Nat) : MV lau G 0 yX1_moveTo cX1_moveTo 2 none [.ref (ad 1), .int (nI mm)] (wC ad G (T, n, mo, ver) Hs P Tr Rg Tx Rd) (fun u : Unit => wC ad G (T, n, mm, ver + nI 1) Hs P Tr Rg Tx Rd) (fun u => True) := by
  refine mv_of (by decide +kernel) (Nat.le_of_ble_eq_true rfl) ?_
  intro p e s m args below meth c A Q F hr hlk hQ
  refine v_st (w' := wC ad G (T, n, mo, ver) Hs P Tr Rg Tx Rd) (pc' := 0) (st' := []) rfl rfl rfl [0, 1] (lv' := [(0, .ref (ad 1)), (1, .int (nI mm))]) rfl ?_
  refine v_aload_n F dX1_moveTo_0 0 rfl rfl ?_
  refine v_iload_n F dX1_moveTo_1 1 rfl rfl ?_
  refine v_put F inlX1 (ci := 1) rfl tyX1 tyX1_ok nmX1 2 (by decide) rfl rfl wF_RX1_19 dX1_moveTo_2 (ty := .int) (by decide +kernel) rfl rfl 1 rfl (Nat.le_of_ble_eq_true rfl) (wC ad G (T, n, mm, ver) Hs P Tr Rg Tx Rd) rfl ?_
  refine v_aload_n F dX1_moveTo_5 0 rfl rfl ?_
  refine v_dup F dX1_moveTo_6 rfl ?_
  refine v_get (v := .int ver) F inlX1 (ci := 1) rfl 3 (by decide) rfl wF_RX1_22 dX1_moveTo_7 1 rfl rfl ?_
  refine v_iconst (v := nI 1) F dX1_moveTo_10 (by decide) ?_
  refine v_iadd F dX1_moveTo_11 ?_
  refine v_put F inlX1 (ci := 1) rfl tyX1 tyX1_ok nmX1 3 (by decide) rfl rfl wF_RX1_22 dX1_moveTo_12 (ty := .int) (by decide +kernel) rfl rfl 1 rfl (Nat.le_of_ble_eq_true rfl) (wC ad G (T, n, mm, (ver + nI 1)) Hs P Tr Rg Tx Rd) rfl ?_
  exact v_vret F hr hlk hQ dX1_moveTo_15 (()) rfl (by trivial)
set_option maxHeartbeats 4000000 in
set_option maxRecDepth 100000 in
theorem m_X1_saveTo (lau : Launch) (G : GT) (ad : Nat → Nat) (T : Nat → Int32) (n mo : Nat) (ver : Int32) (S : Nat → Int32) (h : Nat) (P : PT) (Tr : TT) (Rg : RT) (Tx : XT) (Rd : DT) (at_ : Nat) (hat : at_ ≤ 610) : MV lau G 2 yX1_saveTo cX1_saveTo 3 none [.ref (ad 1), .ref (ad 9), .int (nI at_)] (wC ad G (T, n, mo, ver) (S, h) P Tr Rg Tx Rd) (fun u : Unit => wC ad G (T, n, mo, ver) (va_cpy T (upd (upd S at_ (nI mo)) (at_ + 1) (nI n)) 0 (at_ + 2) 120, h) P Tr Rg Tx Rd) (fun u => True) := by
  refine mv_of (by decide +kernel) (Nat.le_of_ble_eq_true rfl) ?_
  intro p e s m args below meth c A Q F hr hlk hQ
  refine v_st (w' := wC ad G (T, n, mo, ver) (S, h) P Tr Rg Tx Rd) (pc' := 0) (st' := []) rfl rfl rfl [0, 1, 2] (lv' := [(0, .ref (ad 1)), (1, .ref (ad 9)), (2, .int (nI at_))]) rfl ?_
  refine v_iload_n F dX1_saveTo_0 2 rfl rfl ?_
  refine v_if_lt F 13 dX1_saveTo_1 (by decide) (fun c1 => ?_) (fun c1 => ?_)
  · replace c1 := nL (a := at_) (b := 0) (by omega) (by decide) c1
    exact absurd c1 (Nat.not_lt_zero _)
  · replace c1 := nLn (a := at_) (b := 0) (by omega) (by decide) c1
    refine v_iload_n F dX1_saveTo_4 2 rfl rfl ?_
    refine v_aload_n F dX1_saveTo_5 1 rfl rfl ?_
    refine v_alen F dX1_saveTo_6 9 rfl ?_
    refine v_bipush (v := nI 122) F dX1_saveTo_7 (by decide) ?_
    refine v_isub F dX1_saveTo_9 ?_
    refine v_topi (nI 610) (by decide) ?_
    refine v_icmp_le F 14 dX1_saveTo_10 (by decide) (fun c2 => ?_) (fun c2 => ?_)
    · replace c2 := nK (a := at_) (b := 610) (by omega) (by decide) c2
      refine v_aload_n F dX1_saveTo_14 1 rfl rfl ?_
      refine v_iload_n F dX1_saveTo_15 2 rfl rfl ?_
      refine v_aload_n F dX1_saveTo_16 0 rfl rfl ?_
      refine v_get (v := .int (nI mo)) F inlX1 (ci := 1) rfl 2 (by decide) rfl wF_RX1_19 dX1_saveTo_17 1 rfl rfl ?_
      refine v_iastN F dX1_saveTo_20 9 rfl at_ rfl (by omega) (by decide) (wC ad G (T, n, mo, ver) (upd S at_ (nI mo), h) P Tr Rg Tx Rd) rfl ?_
      refine v_aload_n F dX1_saveTo_21 1 rfl rfl ?_
      refine v_iload_n F dX1_saveTo_22 2 rfl rfl ?_
      refine v_iconst (v := nI 1) F dX1_saveTo_23 (by decide) ?_
      refine v_iadd F dX1_saveTo_24 ?_
      refine v_topi (nI (at_ + 1)) (nI_add at_ 1) ?_
      refine v_aload_n F dX1_saveTo_25 0 rfl rfl ?_
      refine v_get (v := .int (nI n)) F inlX1 (ci := 1) rfl 1 (by decide) rfl wF_RX1_15 dX1_saveTo_26 1 rfl rfl ?_
      refine v_iastN F dX1_saveTo_29 9 rfl (at_ + 1) rfl (by omega) (by decide) (wC ad G (T, n, mo, ver) (upd (upd S at_ (nI mo)) (at_ + 1) (nI n), h) P Tr Rg Tx Rd) rfl ?_
      refine v_aload_n F dX1_saveTo_30 0 rfl rfl ?_
      refine v_get (v := .ref (ad 8)) F inlX1 (ci := 1) rfl 0 (by decide) rfl wF_RX1_9 dX1_saveTo_31 1 rfl rfl ?_
      refine v_iconst (v := nI 0) F dX1_saveTo_34 (by decide) ?_
      refine v_aload_n F dX1_saveTo_35 1 rfl rfl ?_
      refine v_iload_n F dX1_saveTo_36 2 rfl rfl ?_
      refine v_iconst (v := nI 2) F dX1_saveTo_37 (by decide) ?_
      refine v_iadd F dX1_saveTo_38 ?_
      refine v_topi (nI (at_ + 2)) (nI_add at_ 2) ?_
      refine v_aload_n F dX1_saveTo_39 0 rfl rfl ?_
      refine v_get (v := .ref (ad 8)) F inlX1 (ci := 1) rfl 0 (by decide) rfl wF_RX1_9 dX1_saveTo_40 1 rfl rfl ?_
      refine v_alen F dX1_saveTo_43 8 rfl ?_
      refine v_copyN F wM_RX1_33 wNa_arraycopyName wSt_arraycopyName wI_RJ10 dX1_saveTo_44 8 9 rfl rfl 0 (at_ + 2) 120 rfl rfl rfl (by omega) (by omega) (by decide) (by decide) (by have := F.2.2.2.2.2.2.2.1; simp at this ⊢) (by have := F.2.2.2.2.2.2.2.2; simp [nativeFrameWords, Value.category] at this ⊢) (wC ad G (T, n, mo, ver) (va_cpy T (upd (upd S at_ (nI mo)) (at_ + 1) (nI n)) 0 (at_ + 2) 120, h) P Tr Rg Tx Rd) rfl ?_
      exact v_vret F hr hlk hQ dX1_saveTo_47 (()) rfl (by trivial)
    · replace c2 := nKn (a := at_) (b := 610) (by omega) (by decide) c2
      omega
set_option maxHeartbeats 4000000 in
set_option maxRecDepth 100000 in
theorem m_X1_restoreFrom (lau : Launch) (G : GT) (ad : Nat → Nat) (T : Nat → Int32) (n mo : Nat) (ver : Int32) (S : Nat → Int32) (h : Nat) (P : PT) (Tr : TT) (Rg : RT) (Tx : XT) (Rd : DT) (at_ n' mo' : Nat) (hat : at_ ≤ 610) (hn' : S (at_ + 1) = nI n') (hmo' : S at_ = nI mo') : MV lau G 2 yX1_restoreFrom cX1_restoreFrom 3 none [.ref (ad 1), .ref (ad 9), .int (nI at_)] (wC ad G (T, n, mo, ver) (S, h) P Tr Rg Tx Rd) (fun u : Unit => wC ad G (va_cpy S T (at_ + 2) 0 120, n', mo', ver + nI 1) (S, h) P Tr Rg Tx Rd) (fun u => True) := by
  refine mv_of (by decide +kernel) (Nat.le_of_ble_eq_true rfl) ?_
  intro p e s m args below meth c A Q F hr hlk hQ
  refine v_st (w' := wC ad G (T, n, mo, ver) (S, h) P Tr Rg Tx Rd) (pc' := 0) (st' := []) rfl rfl rfl [0, 1, 2] (lv' := [(0, .ref (ad 1)), (1, .ref (ad 9)), (2, .int (nI at_))]) rfl ?_
  refine v_iload_n F dX1_restoreFrom_0 2 rfl rfl ?_
  refine v_if_lt F 13 dX1_restoreFrom_1 (by decide) (fun c1 => ?_) (fun c1 => ?_)
  · replace c1 := nL (a := at_) (b := 0) (by omega) (by decide) c1
    exact absurd c1 (Nat.not_lt_zero _)
  · replace c1 := nLn (a := at_) (b := 0) (by omega) (by decide) c1
    refine v_iload_n F dX1_restoreFrom_4 2 rfl rfl ?_
    refine v_aload_n F dX1_restoreFrom_5 1 rfl rfl ?_
    refine v_alen F dX1_restoreFrom_6 9 rfl ?_
    refine v_bipush (v := nI 122) F dX1_restoreFrom_7 (by decide) ?_
    refine v_isub F dX1_restoreFrom_9 ?_
    refine v_topi (nI 610) (by decide) ?_
    refine v_icmp_le F 14 dX1_restoreFrom_10 (by decide) (fun c2 => ?_) (fun c2 => ?_)
    · replace c2 := nK (a := at_) (b := 610) (by omega) (by decide) c2
      refine v_aload_n F dX1_restoreFrom_14 0 rfl rfl ?_
      refine v_aload_n F dX1_restoreFrom_15 1 rfl rfl ?_
      refine v_iload_n F dX1_restoreFrom_16 2 rfl rfl ?_
      refine v_ialdN F dX1_restoreFrom_17 9 rfl at_ rfl (by omega) (by decide) (S at_) rfl ?_
      refine v_topi (nI mo') (hmo') ?_
      refine v_put F inlX1 (ci := 1) rfl tyX1 tyX1_ok nmX1 2 (by decide) rfl rfl wF_RX1_19 dX1_restoreFrom_18 (ty := .int) (by decide +kernel) rfl rfl 1 rfl (Nat.le_of_ble_eq_true rfl) (wC ad G (T, n, mo', ver) (S, h) P Tr Rg Tx Rd) rfl ?_
      refine v_aload_n F dX1_restoreFrom_21 0 rfl rfl ?_
      refine v_aload_n F dX1_restoreFrom_22 1 rfl rfl ?_
      refine v_iload_n F dX1_restoreFrom_23 2 rfl rfl ?_
      refine v_iconst (v := nI 1) F dX1_restoreFrom_24 (by decide) ?_
      refine v_iadd F dX1_restoreFrom_25 ?_
      refine v_topi (nI (at_ + 1)) (nI_add at_ 1) ?_
      refine v_ialdN F dX1_restoreFrom_26 9 rfl (at_ + 1) rfl (by omega) (by decide) (S (at_ + 1)) rfl ?_
      refine v_topi (nI n') (hn') ?_
      refine v_put F inlX1 (ci := 1) rfl tyX1 tyX1_ok nmX1 1 (by decide) rfl rfl wF_RX1_15 dX1_restoreFrom_27 (ty := .int) (by decide +kernel) rfl rfl 1 rfl (Nat.le_of_ble_eq_true rfl) (wC ad G (T, n', mo', ver) (S, h) P Tr Rg Tx Rd) rfl ?_
      refine v_aload_n F dX1_restoreFrom_30 1 rfl rfl ?_
      refine v_iload_n F dX1_restoreFrom_31 2 rfl rfl ?_
      refine v_iconst (v := nI 2) F dX1_restoreFrom_32 (by decide) ?_
      refine v_iadd F dX1_restoreFrom_33 ?_
      refine v_topi (nI (at_ + 2)) (nI_add at_ 2) ?_
      refine v_aload_n F dX1_restoreFrom_34 0 rfl rfl ?_
      refine v_get (v := .ref (ad 8)) F inlX1 (ci := 1) rfl 0 (by decide) rfl wF_RX1_9 dX1_restoreFrom_35 1 rfl rfl ?_
      refine v_iconst (v := nI 0) F dX1_restoreFrom_38 (by decide) ?_
      refine v_aload_n F dX1_restoreFrom_39 0 rfl rfl ?_
      refine v_get (v := .ref (ad 8)) F inlX1 (ci := 1) rfl 0 (by decide) rfl wF_RX1_9 dX1_restoreFrom_40 1 rfl rfl ?_
      refine v_alen F dX1_restoreFrom_43 8 rfl ?_
      refine v_copyN F wM_RX1_33 wNa_arraycopyName wSt_arraycopyName wI_RJ10 dX1_restoreFrom_44 9 8 rfl rfl (at_ + 2) 0 120 rfl rfl rfl (by omega) (by omega) (by decide) (by decide) (by have := F.2.2.2.2.2.2.2.1; simp at this ⊢) (by have := F.2.2.2.2.2.2.2.2; simp [nativeFrameWords, Value.category] at this ⊢) (wC ad G (va_cpy S T (at_ + 2) 0 120, n', mo', ver) (S, h) P Tr Rg Tx Rd) rfl ?_
      refine v_aload_n F dX1_restoreFrom_47 0 rfl rfl ?_
      refine v_dup F dX1_restoreFrom_48 rfl ?_
      refine v_get (v := .int ver) F inlX1 (ci := 1) rfl 3 (by decide) rfl wF_RX1_22 dX1_restoreFrom_49 1 rfl rfl ?_
      refine v_iconst (v := nI 1) F dX1_restoreFrom_52 (by decide) ?_
      refine v_iadd F dX1_restoreFrom_53 ?_
      refine v_put F inlX1 (ci := 1) rfl tyX1 tyX1_ok nmX1 3 (by decide) rfl rfl wF_RX1_22 dX1_restoreFrom_54 (ty := .int) (by decide +kernel) rfl rfl 1 rfl (Nat.le_of_ble_eq_true rfl) (wC ad G (va_cpy S T (at_ + 2) 0 120, n', mo', (ver + nI 1)) (S, h) P Tr Rg Tx Rd) rfl ?_
      exact v_vret F hr hlk hQ dX1_restoreFrom_57 (()) rfl (by trivial)
    · replace c2 := nKn (a := at_) (b := 610) (by omega) (by decide) c2
      omega
set_option maxHeartbeats 4000000 in
set_option maxRecDepth 100000 in
theorem m_X1_valueAt (lau : Launch) (G : GT) (ad : Nat → Nat) (T : Nat → Int32) (n mo : Nat) (ver : Int32) (Hs : HT) (P : PT) (Tr : TT) (Rg : RT) (Tx : XT) (Rd : DT) (l x : Nat) (hl : l < n) (hn : n ≤ 20) : MI lau G 0 yX1_valueAt cX1_valueAt 3 (some .int) [.ref (ad 1), .int (nI l), .int (nI x)] (wC ad G (T, n, mo, ver) Hs P Tr Rg Tx Rd) (fun u : Unit => wC ad G (T, n, mo, ver) Hs P Tr Rg Tx Rd) (fun r u => r = (pVal T l x)) := by
  refine mi_of (by decide +kernel) (Nat.le_of_ble_eq_true rfl) ?_
  intro p e s m args below meth c A Q F hr hlk hQ
  refine v_st (w' := wC ad G (T, n, mo, ver) Hs P Tr Rg Tx Rd) (pc' := 0) (st' := []) rfl rfl rfl [0, 1, 2] (lv' := [(0, .ref (ad 1)), (1, .int (nI l)), (2, .int (nI x))]) rfl ?_
  refine v_iload_n F dX1_valueAt_0 1 rfl rfl ?_
  refine v_if_lt F 12 dX1_valueAt_1 (by decide) (fun c1 => ?_) (fun c1 => ?_)
  · replace c1 := nL (a := l) (b := 0) (by omega) (by decide) c1
    exact absurd c1 (Nat.not_lt_zero _)
  · replace c1 := nLn (a := l) (b := 0) (by omega) (by decide) c1
    refine v_iload_n F dX1_valueAt_4 1 rfl rfl ?_
    refine v_aload_n F dX1_valueAt_5 0 rfl rfl ?_
    refine v_get (v := .int (nI n)) F inlX1 (ci := 1) rfl 1 (by decide) rfl wF_RX1_15 dX1_valueAt_6 1 rfl rfl ?_
    refine v_icmp_lt F 14 dX1_valueAt_9 (by decide) (fun c2 => ?_) (fun c2 => ?_)
    · replace c2 := nL (a := l) (b := n) (by omega) (by omega) c2
      refine v_aload_n F dX1_valueAt_14 0 rfl rfl ?_
      refine v_get (v := .ref (ad 8)) F inlX1 (ci := 1) rfl 0 (by decide) rfl wF_RX1_9 dX1_valueAt_15 1 rfl rfl ?_
      refine v_iload_n F dX1_valueAt_18 1 rfl rfl ?_
      refine v_bipush (v := nI 6) F dX1_valueAt_19 (by decide) ?_
      refine v_imul F dX1_valueAt_21 ?_
      refine v_topi (nI (l * 6)) (pk_mul l 6) ?_
      refine v_iconst (v := nI 0) F dX1_valueAt_22 (by decide) ?_
      refine v_iadd F dX1_valueAt_23 ?_
      refine v_topi (nI ((l * 6) + 0)) (nI_add (l * 6) 0) ?_
      refine v_ialdN F dX1_valueAt_24 8 rfl ((l * 6) + 0) rfl (by omega) (by decide) (T ((l * 6) + 0)) rfl ?_
      refine v_iload_n F dX1_valueAt_25 2 rfl rfl ?_
      refine v_imul F dX1_valueAt_26 ?_
      refine v_aload_n F dX1_valueAt_27 0 rfl rfl ?_
      refine v_get (v := .ref (ad 8)) F inlX1 (ci := 1) rfl 0 (by decide) rfl wF_RX1_9 dX1_valueAt_28 1 rfl rfl ?_
      refine v_iload_n F dX1_valueAt_31 1 rfl rfl ?_
      refine v_bipush (v := nI 6) F dX1_valueAt_32 (by decide) ?_
      refine v_imul F dX1_valueAt_34 ?_
      refine v_topi (nI (l * 6)) (pk_mul l 6) ?_
      refine v_iconst (v := nI 1) F dX1_valueAt_35 (by decide) ?_
      refine v_iadd F dX1_valueAt_36 ?_
      refine v_topi (nI ((l * 6) + 1)) (nI_add (l * 6) 1) ?_
      refine v_ialdN F dX1_valueAt_37 8 rfl ((l * 6) + 1) rfl (by omega) (by decide) (T ((l * 6) + 1)) rfl ?_
      refine v_iadd F dX1_valueAt_38 ?_
      exact v_iret F hr hlk hQ dX1_valueAt_39 (()) rfl (by first | rfl | (simp; done))
    · replace c2 := nLn (a := l) (b := n) (by omega) (by omega) c2
      omega
