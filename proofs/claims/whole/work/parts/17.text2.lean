theorem cs_RX3_35 : CSV RX3 35 RX1 yX1_addLine cX1_addLine 6 none 4 := ⟨wC_yX1_addLine, wM_RX3_35, wIm_yX1_addLine, wSe_yX1_addLine, wI_RX1, by decide +kernel, by decide⟩
set_option maxHeartbeats 4000000 in
set_option maxRecDepth 100000 in
theorem m_X3_writeTo (lau : Launch) (G : GT) (ad : Nat → Nat) (T : Nat → Int32) (n mo ver : Nat) (Hs : HT) (P : PT) (Tr : TT) (Rg : RT) (Tx : XT) (d : DT) (hn : n < 20) (h1 : d.1 = 5 ∨ d.1 = 9) : MV lau G 3 yX3_writeTo cX3_writeTo 2 none [.ref (ad 7), .ref (ad 1)] (wC ad G (T, n, mo, ver) Hs P Tr Rg Tx d) (fun u : Unit => wC ad G (rWr d T n, n + 1, mo, ver + 6) Hs P Tr Rg Tx d) (fun u => True) := by
  refine mv_of (by decide +kernel) (Nat.le_of_ble_eq_true rfl) ?_
  intro p e s m args below meth c A Q F hr hlk hQ
  refine v_st (w' := wC ad G (T, n, mo, ver) Hs P Tr Rg Tx d) (pc' := 0) (st' := []) rfl rfl rfl [0, 1] (lv' := [(0, .ref (ad 7)), (1, .ref (ad 1))]) rfl ?_
  refine v_aload_n F dX3_writeTo_0 0 rfl rfl ?_
  refine v_get (v := .int (nI d.1)) F inlX3 (ci := 3) rfl 0 (by decide) rfl wF_RX3_11 dX3_writeTo_1 7 rfl rfl ?_
  refine v_iconst (v := nI 5) F dX3_writeTo_4 (by decide) ?_
  refine v_icmp_ne F 26 dX3_writeTo_5 (by decide) (fun c1 => ?_) (fun c1 => ?_)
  · replace c1 := nEn (a := d.1) (b := 5) (by omega) (by decide) c1
    refine v_aload_n F dX3_writeTo_26 0 rfl rfl ?_
    refine v_get (v := .int (nI d.1)) F inlX3 (ci := 3) rfl 0 (by decide) rfl wF_RX3_11 dX3_writeTo_27 7 rfl rfl ?_
    refine v_bipush (v := nI 9) F dX3_writeTo_30 (by decide) ?_
    refine v_icmp_ne F 55 dX3_writeTo_32 (by decide) (fun c2 => ?_) (fun c2 => ?_)
    · replace c2 := nEn (a := d.1) (b := 9) (by omega) (by decide) c2
      omega
    · replace c2 := nE (a := d.1) (b := 9) (by omega) (by decide) c2
      refine v_aload_n F dX3_writeTo_35 1 rfl rfl ?_
      refine v_aload_n F dX3_writeTo_36 0 rfl rfl ?_
      refine v_get (v := .int d.2.2.2.1) F inlX3 (ci := 3) rfl 3 (by decide) rfl wF_RX3_22 dX3_writeTo_37 7 rfl rfl ?_
      refine v_aload_n F dX3_writeTo_40 0 rfl rfl ?_
      refine v_get (v := .int d.2.2.2.2.1) F inlX3 (ci := 3) rfl 4 (by decide) rfl wF_RX3_25 dX3_writeTo_41 7 rfl rfl ?_
      refine v_aload_n F dX3_writeTo_44 0 rfl rfl ?_
      refine v_get (v := .int (nI d.2.2.2.2.2)) F inlX3 (ci := 3) rfl 5 (by decide) rfl wF_RX3_28 dX3_writeTo_45 7 rfl rfl ?_
      refine v_aload_n F dX3_writeTo_48 0 rfl rfl ?_
      refine v_get (v := .int (nI d.2.1)) F inlX3 (ci := 3) rfl 1 (by decide) rfl wF_RX3_15 dX3_writeTo_49 7 rfl rfl ?_
      refine v_cVVF F cs_RX3_35 dX3_writeTo_52 1 (ci := 1) rfl rfl (m_X1_addLine lau G ad T n mo ver Hs P Tr Rg Tx d d.2.2.2.1 d.2.2.2.2.1 (nI d.2.2.2.2.2) (nI d.2.1) (by omega)) (by decide) rfl rfl (Nat.le_of_ble_eq_true rfl) ⟨Nat.zero_le _, Nat.zero_le _⟩ (fun u4 w5 => ?_)
      refine v_w (w' := wC ad G (rWr d T n, n + 1, mo, ver + 6) Hs P Tr Rg Tx d) (congrArg (fun z_ => wC ad G z_ Hs P Tr Rg Tx d) (show (pAdd T n d.2.2.2.1 d.2.2.2.2.1 (nI d.2.2.2.2.2) (nI d.2.1), n + 1, mo, ver + 6) = (rWr d T n, n + 1, mo, ver + 6) by simp [rWr, *])) ?_
      exact v_vret F hr hlk hQ dX3_writeTo_55 (()) rfl (by trivial)
  · replace c1 := nE (a := d.1) (b := 5) (by omega) (by decide) c1
    refine v_aload_n F dX3_writeTo_8 1 rfl rfl ?_
    refine v_aload_n F dX3_writeTo_9 0 rfl rfl ?_
    refine v_get (v := .int d.2.2.2.1) F inlX3 (ci := 3) rfl 3 (by decide) rfl wF_RX3_22 dX3_writeTo_10 7 rfl rfl ?_
    refine v_aload_n F dX3_writeTo_13 0 rfl rfl ?_
    refine v_cVIF F cs_RX3_31 dX3_writeTo_14 7 (ci := 3) rfl rfl (m_X3_signedNumber lau G ad (T, n, mo, ver) Hs P Tr Rg Tx d ) (by decide) rfl rfl (Nat.le_of_ble_eq_true rfl) ⟨Nat.zero_le _, Nat.zero_le _⟩ (fun r6 u7 w8 => ?_)
    subst w8
    refine v_iconst (v := nI 0) F dX3_writeTo_17 (by decide) ?_
    refine v_bipush (v := nI 99) F dX3_writeTo_18 (by decide) ?_
    refine v_cVVF F cs_RX3_35 dX3_writeTo_20 1 (ci := 1) rfl rfl (m_X1_addLine lau G ad T n mo ver Hs P Tr Rg Tx d d.2.2.2.1 (rSigned d) (nI 0) (nI 99) (by omega)) (by decide) rfl rfl (Nat.le_of_ble_eq_true rfl) ⟨Nat.zero_le _, Nat.zero_le _⟩ (fun u10 w11 => ?_)
    refine v_goto F 55 dX3_writeTo_23 (by decide) ?_
    refine v_w (w' := wC ad G (rWr d T n, n + 1, mo, ver + 6) Hs P Tr Rg Tx d) (congrArg (fun z_ => wC ad G z_ Hs P Tr Rg Tx d) (show (pAdd T n d.2.2.2.1 ((rSigned d)) (nI 0) (nI 99), n + 1, mo, ver + 6) = (rWr d T n, n + 1, mo, ver + 6) by simp [rWr, *])) ?_
    exact v_vret F hr hlk hQ dX3_writeTo_55 (()) rfl (by trivial)
set_option maxHeartbeats 4000000 in
set_option maxRecDepth 100000 in
theorem m_X5_length (lau : Launch) (G : GT) (ad : Nat → Nat) (L : LT) (Hs : HT) (P : PT) (Tr : TT) (Rg : RT) (co : Nat → Int32) (len : Nat) (d : DT) : MI lau G 0 yX5_length cX5_length 1 (some .int) [.ref (ad 3)] (wC ad G L Hs P Tr Rg (co, len) d) (fun u : Unit => wC ad G L Hs P Tr Rg (co, len) d) (fun r u => r = nI len) := by
  refine mi_of (by decide +kernel) (Nat.le_of_ble_eq_true rfl) ?_
  intro p e s m args below meth c A Q F hr hlk hQ
  refine v_st (w' := wC ad G L Hs P Tr Rg (co, len) d) (pc' := 0) (st' := []) rfl rfl rfl [0] (lv' := [(0, .ref (ad 3))]) rfl ?_
  refine v_aload_n F dX5_length_0 0 rfl rfl ?_
  refine v_get (v := .int (nI len)) F inlX5 (ci := 5) rfl 2 (by decide) rfl wF_RX5_22 dX5_length_1 3 rfl rfl ?_
  exact v_iret F hr hlk hQ dX5_length_4 (()) rfl (by first | rfl | (simp; done))
set_option maxHeartbeats 4000000 in
set_option maxRecDepth 100000 in
theorem m_X5_codeAt (lau : Launch) (G : GT) (ad : Nat → Nat) (L : LT) (Hs : HT) (P : PT) (Tr : TT) (Rg : RT) (co : Nat → Int32) (len : Nat) (d : DT) (i : Nat) (hi : i < len) (hX : TXOK co len) : MI lau G 0 yX5_codeAt cX5_codeAt 2 (some .int) [.ref (ad 3), .int (nI i)] (wC ad G L Hs P Tr Rg (co, len) d) (fun u : Unit => wC ad G L Hs P Tr Rg (co, len) d) (fun r u => r = (co i)) := by
  have hlen := hX.1
  refine mi_of (by decide +kernel) (Nat.le_of_ble_eq_true rfl) ?_
  intro p e s m args below meth c A Q F hr hlk hQ
  refine v_st (w' := wC ad G L Hs P Tr Rg (co, len) d) (pc' := 0) (st' := []) rfl rfl rfl [0, 1] (lv' := [(0, .ref (ad 3)), (1, .int (nI i))]) rfl ?_
  refine v_iload_n F dX5_codeAt_0 1 rfl rfl ?_
  refine v_if_lt F 12 dX5_codeAt_1 (by decide) (fun c1 => ?_) (fun c1 => ?_)
  · replace c1 := nL (a := i) (b := 0) (by omega) (by decide) c1
    exact absurd c1 (Nat.not_lt_zero _)
  · replace c1 := nLn (a := i) (b := 0) (by omega) (by decide) c1
    refine v_iload_n F dX5_codeAt_4 1 rfl rfl ?_
    refine v_aload_n F dX5_codeAt_5 0 rfl rfl ?_
    refine v_get (v := .int (nI len)) F inlX5 (ci := 5) rfl 2 (by decide) rfl wF_RX5_22 dX5_codeAt_6 3 rfl rfl ?_
    refine v_icmp_lt F 16 dX5_codeAt_9 (by decide) (fun c2 => ?_) (fun c2 => ?_)
    · replace c2 := nL (a := i) (b := len) (by omega) (by omega) c2
      refine v_aload_n F dX5_codeAt_16 0 rfl rfl ?_
      refine v_get (v := .ref (ad 17)) F inlX5 (ci := 5) rfl 0 (by decide) rfl wF_RX5_9 dX5_codeAt_17 3 rfl rfl ?_
      refine v_iload_n F dX5_codeAt_20 1 rfl rfl ?_
      refine v_ialdN F dX5_codeAt_21 17 rfl i rfl (by omega) (by decide) (co i) rfl ?_
      exact v_iret F hr hlk hQ dX5_codeAt_22 (()) rfl (by first | rfl | (simp; done))
    · replace c2 := nLn (a := i) (b := len) (by omega) (by omega) c2
      omega
set_option maxHeartbeats 4000000 in
set_option maxRecDepth 100000 in
theorem m_X5_push (lau : Launch) (G : GT) (ad : Nat → Nat) (L : LT) (Hs : HT) (P : PT) (Tr : TT) (Rg : RT) (co : Nat → Int32) (len : Nat) (d : DT) (x : Nat) (hl : len < 60) : MV lau G 0 yX5_push cX5_push 2 none [.ref (ad 3), .int (nI x)] (wC ad G L Hs P Tr Rg (co, len) d) (fun u : Unit => wC ad G L Hs P Tr Rg (upd co len (nI x), len + 1) d) (fun u => True) := by
  refine mv_of (by decide +kernel) (Nat.le_of_ble_eq_true rfl) ?_
  intro p e s m args below meth c A Q F hr hlk hQ
  refine v_st (w' := wC ad G L Hs P Tr Rg (co, len) d) (pc' := 0) (st' := []) rfl rfl rfl [0, 1] (lv' := [(0, .ref (ad 3)), (1, .int (nI x))]) rfl ?_
  refine v_aload_n F dX5_push_0 0 rfl rfl ?_
  refine v_get (v := .int (nI len)) F inlX5 (ci := 5) rfl 2 (by decide) rfl wF_RX5_22 dX5_push_1 3 rfl rfl ?_
  refine v_bipush (v := nI 60) F dX5_push_4 (by decide) ?_
  refine v_icmp_ge F 29 dX5_push_6 (by decide) (fun c1 => ?_) (fun c1 => ?_)
  · replace c1 := nG (a := len) (b := 60) (by omega) (by decide) c1
    omega
  · replace c1 := nGn (a := len) (b := 60) (by omega) (by decide) c1
    refine v_aload_n F dX5_push_9 0 rfl rfl ?_
    refine v_get (v := .ref (ad 17)) F inlX5 (ci := 5) rfl 0 (by decide) rfl wF_RX5_9 dX5_push_10 3 rfl rfl ?_
    refine v_aload_n F dX5_push_13 0 rfl rfl ?_
    refine v_get (v := .int (nI len)) F inlX5 (ci := 5) rfl 2 (by decide) rfl wF_RX5_22 dX5_push_14 3 rfl rfl ?_
    refine v_iload_n F dX5_push_17 1 rfl rfl ?_
    refine v_iastN F dX5_push_18 17 rfl len rfl (by omega) (by decide) (wC ad G L Hs P Tr Rg (upd co len (nI x), len) d) rfl ?_
    refine v_aload_n F dX5_push_19 0 rfl rfl ?_
    refine v_dup F dX5_push_20 rfl ?_
    refine v_get (v := .int (nI len)) F inlX5 (ci := 5) rfl 2 (by decide) rfl wF_RX5_22 dX5_push_21 3 rfl rfl ?_
    refine v_iconst (v := nI 1) F dX5_push_24 (by decide) ?_
    refine v_iadd F dX5_push_25 ?_
    refine v_topi (nI (len + 1)) (nI_add len 1) ?_
    refine v_put F inlX5 (ci := 5) rfl tyX5 tyX5_ok nmX5 2 (by decide) rfl rfl wF_RX5_22 dX5_push_26 (ty := .int) (by decide +kernel) rfl rfl 3 rfl (Nat.le_of_ble_eq_true rfl) (wC ad G L Hs P Tr Rg (upd co len (nI x), len + 1) d) rfl ?_
    exact v_vret F hr hlk hQ dX5_push_29 (()) rfl (by trivial)
set_option maxHeartbeats 4000000 in
set_option maxRecDepth 100000 in
theorem m_X5_empty (lau : Launch) (G : GT) (ad : Nat → Nat) (L : LT) (Hs : HT) (P : PT) (Tr : TT) (Rg : RT) (co : Nat → Int32) (len : Nat) (d : DT) : MV lau G 0 yX5_empty cX5_empty 1 none [.ref (ad 3)] (wC ad G L Hs P Tr Rg (co, len) d) (fun u : Unit => wC ad G L Hs P Tr Rg (co, 0) d) (fun u => True) := by
  refine mv_of (by decide +kernel) (Nat.le_of_ble_eq_true rfl) ?_
  intro p e s m args below meth c A Q F hr hlk hQ
  refine v_st (w' := wC ad G L Hs P Tr Rg (co, len) d) (pc' := 0) (st' := []) rfl rfl rfl [0] (lv' := [(0, .ref (ad 3))]) rfl ?_
  refine v_aload_n F dX5_empty_0 0 rfl rfl ?_
  refine v_iconst (v := nI 0) F dX5_empty_1 (by decide) ?_
  refine v_put F inlX5 (ci := 5) rfl tyX5 tyX5_ok nmX5 2 (by decide) rfl rfl wF_RX5_22 dX5_empty_2 (ty := .int) (by decide +kernel) rfl rfl 3 rfl (Nat.le_of_ble_eq_true rfl) (wC ad G L Hs P Tr Rg (co, 0) d) rfl ?_
  exact v_vret F hr hlk hQ dX5_empty_5 (()) rfl (by trivial)
theorem cs_RX5_26 : CSV RX5 26 RX3 yX3_start cX3_start 1 none 0 := ⟨wC_yX3_start, wM_RX5_26, wIm_yX3_start, wSe_yX3_start, wI_RX3, by decide +kernel, by decide⟩
theorem cs_RX5_29 : CSV RX5 29 RX3 yX3_takes cX3_takes 2 (some .boolean) 1 := ⟨wC_yX3_takes, wM_RX5_29, wIm_yX3_takes, wSe_yX3_takes, wI_RX3, by decide +kernel, by decide⟩
set_option maxHeartbeats 4000000 in
set_option maxRecDepth 100000 in
theorem m_X5_errorIndex (lau : Launch) (G : GT) (ad : Nat → Nat) (L : LT) (Hs : HT) (P : PT) (Tr : TT) (Rg : RT) (co : Nat → Int32) (len : Nat) (d : DT) (hX : TXOK co len) (hD : DOK d) : MI lau G 4 yX5_errorIndex cX5_errorIndex 2 (some .int) [.ref (ad 3)] (wC ad G L Hs P Tr Rg (co, len) d) (fun u : Unit => wC ad G L Hs P Tr Rg (co, len) (rRun d co (min (rErr d co len + 1) len))) (fun r u => r = nI (rErr d co len)) := by
  have hlen := hX.1
  refine mi_of (by decide +kernel) (Nat.le_of_ble_eq_true rfl) ?_
  intro p e s m args below meth c A Q F hr hlk hQ
  refine v_st (w' := wC ad G L Hs P Tr Rg (co, len) d) (pc' := 0) (st' := []) rfl rfl rfl [0] (lv' := [(0, .ref (ad 3))]) rfl ?_
  refine v_aload_n F dX5_errorIndex_0 0 rfl rfl ?_
  refine v_get (v := .ref (ad 7)) F inlX5 (ci := 5) rfl 1 (by decide) rfl wF_RX5_18 dX5_errorIndex_1 3 rfl rfl ?_
  refine v_cVVF F cs_RX5_26 dX5_errorIndex_4 7 (ci := 3) rfl rfl (m_X3_start lau G ad L Hs P Tr Rg (co, len) d ) (by decide) rfl rfl (Nat.le_of_ble_eq_true rfl) ⟨Nat.zero_le _, Nat.zero_le _⟩ (fun u2 w3 => ?_)
  refine v_iconst (v := nI 0) F dX5_errorIndex_7 (by decide) ?_
  refine v_istore_n (lv' := [(1, .int (nI 0)), (0, .ref (ad 3))]) F dX5_errorIndex_8 1 rfl (by decide) rfl ?_
  have L9 : ∀ (k_ : Nat) (i : Nat), len - i < k_ → (i ≤ len) → (∀ j, j < i → (rTakes (rRun d co j) (cN co j)).1 = true) → V p lau e (RM 4) s m args below meth c 2 G A Q (wC ad G L Hs P Tr Rg (co, len) (rRun d co i)) 0 0 9 [(1, .int (nI i)), (0, .ref (ad 3))] [] := by
    intro k_
    induction k_ with
    | zero => exact fun i hk_ hi hgd => absurd hk_ (Nat.not_lt_zero _)
    | succ k_ ih9 =>
      intro i hk_9 hi hgd
      refine v_iload_n F dX5_errorIndex_9 1 rfl rfl ?_
      refine v_aload_n F dX5_errorIndex_10 0 rfl rfl ?_
      refine v_get (v := .int (nI len)) F inlX5 (ci := 5) rfl 2 (by decide) rfl wF_RX5_22 dX5_errorIndex_11 3 rfl rfl ?_
      refine v_icmp_ge F 41 dX5_errorIndex_14 (by decide) (fun c4 => ?_) (fun c4 => ?_)
      · replace c4 := nG (a := i) (b := len) (by omega) (by omega) c4
        refine v_aload_n F dX5_errorIndex_41 0 rfl rfl ?_
        refine v_get (v := .int (nI len)) F inlX5 (ci := 5) rfl 2 (by decide) rfl wF_RX5_22 dX5_errorIndex_42 3 rfl rfl ?_
        refine v_w (w' := wC ad G L Hs P Tr Rg (co, len) (rRun d co (min (rErr d co len + 1) len))) (congrArg (fun z_ => wC ad G L Hs P Tr Rg (co, len) z_) (show (rRun d co i) = (rRun d co (min (rErr d co len + 1) len)) by first | exact rEnd_a (by assumption) hgd (by assumption) | exact rEnd_b hi hgd (by assumption))) ?_
        exact v_iret F hr hlk hQ dX5_errorIndex_45 (()) rfl (by first | exact congrArg nI (rErr_a (by assumption) hgd (by assumption)).symm | exact congrArg nI (rErr_b hi hgd (by assumption)).symm)
      · replace c4 := nGn (a := i) (b := len) (by omega) (by omega) c4
        refine v_aload_n F dX5_errorIndex_17 0 rfl rfl ?_
        refine v_get (v := .ref (ad 7)) F inlX5 (ci := 5) rfl 1 (by decide) rfl wF_RX5_18 dX5_errorIndex_18 3 rfl rfl ?_
        refine v_aload_n F dX5_errorIndex_21 0 rfl rfl ?_
        refine v_get (v := .ref (ad 17)) F inlX5 (ci := 5) rfl 0 (by decide) rfl wF_RX5_9 dX5_errorIndex_22 3 rfl rfl ?_
        refine v_iload_n F dX5_errorIndex_25 1 rfl rfl ?_
        refine v_ialdN F dX5_errorIndex_26 17 rfl i rfl (by omega) (by decide) (co i) rfl ?_
        refine v_topi (nI (cN co i)) (cN_of hX (by omega)) ?_
        refine v_cVIF F cs_RX5_29 dX5_errorIndex_27 7 (ci := 3) rfl rfl (m_X3_takes lau G ad L Hs P Tr Rg (co, len) ((rRun d co i).1) ((rRun d co i).2.1) ((rRun d co i).2.2.1) ((rRun d co i).2.2.2.1) ((rRun d co i).2.2.2.2.1) ((rRun d co i).2.2.2.2.2) (cN co i) (cN_le hX (by omega)) ((rRun_ok hX hD hi).1) ((rRun_ok hX hD hi).2.1) ((rRun_ok hX hD hi).2.2)) (by decide) rfl rfl (Nat.le_of_ble_eq_true rfl) ⟨Nat.zero_le _, Nat.zero_le _⟩ (fun r5 u6 w7 => ?_)
        subst w7
        refine v_if_ne F 35 dX5_errorIndex_30 (by decide) (fun htk => ?_) (fun htk => ?_)
        · replace htk := bI_t htk
          refine v_iinc (lv' := [(1, .int (nI (i + 1))), (0, .ref (ad 3))]) F (nI (i + 1)) dX5_errorIndex_35 rfl (nI_add i 1) (by decide) rfl ?_
          refine v_goto F 9 dX5_errorIndex_38 (by decide) ?_
          refine v_st (w' := wC ad G L Hs P Tr Rg (co, len) ((rTakes (((rRun d co i).1), ((rRun d co i).2.1), ((rRun d co i).2.2.1), ((rRun d co i).2.2.2.1), ((rRun d co i).2.2.2.2.1), ((rRun d co i).2.2.2.2.2)) (cN co i)).2)) (pc' := 9) (st' := []) rfl rfl rfl [0, 1] (lv' := [(1, .int (nI (i + 1))), (0, .ref (ad 3))]) rfl ?_
          exact ih9 (i + 1) (by omega) (by omega) (lt_s hgd htk)
        · replace htk := bI_f htk
          refine v_iload_n F dX5_errorIndex_33 1 rfl rfl ?_
          refine v_w (w' := wC ad G L Hs P Tr Rg (co, len) (rRun d co (min (rErr d co len + 1) len))) (congrArg (fun z_ => wC ad G L Hs P Tr Rg (co, len) z_) (show ((rTakes (((rRun d co i).1), ((rRun d co i).2.1), ((rRun d co i).2.2.1), ((rRun d co i).2.2.2.1), ((rRun d co i).2.2.2.2.1), ((rRun d co i).2.2.2.2.2)) (cN co i)).2) = (rRun d co (min (rErr d co len + 1) len)) by first | exact rEnd_a (by assumption) hgd (by assumption) | exact rEnd_b hi hgd (by assumption))) ?_
          exact v_iret F hr hlk hQ dX5_errorIndex_34 (()) rfl (by first | exact congrArg nI (rErr_a (by assumption) hgd (by assumption)).symm | exact congrArg nI (rErr_b hi hgd (by assumption)).symm)
  refine v_st (w' := wC ad G L Hs P Tr Rg (co, len) (rStart d)) (pc' := 9) (st' := []) rfl rfl rfl [0, 1] (lv' := [(1, .int (nI 0)), (0, .ref (ad 3))]) rfl ?_
  exact L9 _ 0 (Nat.lt_succ_self _) (by omega) (fun j hj => absurd hj (Nat.not_lt_zero j))
theorem cs_RX5_33 : CSV RX5 33 RX5 yX5_errorIndex cX5_errorIndex 2 (some .int) 0 := ⟨wC_yX5_errorIndex, wM_RX5_33, wIm_yX5_errorIndex, wSe_yX5_errorIndex, wI_RX5, by decide +kernel, by decide⟩
theorem cs_RX5_37 : CSV RX5 37 RX3 yX3_hasWholeLine cX3_hasWholeLine 1 (some .boolean) 0 := ⟨wC_yX3_hasWholeLine, wM_RX5_37, wIm_yX3_hasWholeLine, wSe_yX3_hasWholeLine, wI_RX3, by decide +kernel, by decide⟩
set_option maxHeartbeats 4000000 in
set_option maxRecDepth 100000 in
theorem m_X5_isWhole (lau : Launch) (G : GT) (ad : Nat → Nat) (L : LT) (Hs : HT) (P : PT) (Tr : TT) (Rg : RT) (co : Nat → Int32) (len : Nat) (d : DT) (hX : TXOK co len) (hD : DOK d) : MI lau G 5 yX5_isWhole cX5_isWhole 1 (some .boolean) [.ref (ad 3)] (wC ad G L Hs P Tr Rg (co, len) d) (fun u : Unit => wC ad G L Hs P Tr Rg (co, len) (rRun d co (min (rErr d co len + 1) len))) (fun r u => r = bI (rAll d co len)) := by
  have hlen := hX.1; have hre := rErr_le d co len
  refine mi_of (by decide +kernel) (Nat.le_of_ble_eq_true rfl) ?_
  intro p e s m args below meth c A Q F hr hlk hQ
  refine v_st (w' := wC ad G L Hs P Tr Rg (co, len) d) (pc' := 0) (st' := []) rfl rfl rfl [0] (lv' := [(0, .ref (ad 3))]) rfl ?_
  refine v_aload_n F dX5_isWhole_0 0 rfl rfl ?_
  refine v_cVIF F cs_RX5_33 dX5_isWhole_1 3 (ci := 5) rfl rfl (m_X5_errorIndex lau G ad L Hs P Tr Rg co len d hX hD) (by decide) rfl rfl (Nat.le_of_ble_eq_true rfl) ⟨Nat.zero_le _, Nat.zero_le _⟩ (fun r1 u2 w3 => ?_)
  subst w3
  refine v_aload_n F dX5_isWhole_4 0 rfl rfl ?_
  refine v_get (v := .int (nI len)) F inlX5 (ci := 5) rfl 2 (by decide) rfl wF_RX5_22 dX5_isWhole_5 3 rfl rfl ?_
  refine v_icmp_ne F 25 dX5_isWhole_8 (by decide) (fun c4 => ?_) (fun c4 => ?_)
  · replace c4 := nEn (a := (rErr d co len)) (b := len) (by omega) (by omega) c4
    refine v_iconst (v := nI 0) F dX5_isWhole_25 (by decide) ?_
    exact v_zret F hr hlk hQ rfl dX5_isWhole_26 (()) rfl (by first | exact rAll_1 (by assumption) (by assumption) | exact rAll_2 (by assumption) | exact rAll_3 (by assumption))
  · replace c4 := nE (a := (rErr d co len)) (b := len) (by omega) (by omega) c4
    refine v_aload_n F dX5_isWhole_11 0 rfl rfl ?_
    refine v_get (v := .ref (ad 7)) F inlX5 (ci := 5) rfl 1 (by decide) rfl wF_RX5_18 dX5_isWhole_12 3 rfl rfl ?_
    refine v_cVIF F cs_RX5_37 dX5_isWhole_15 7 (ci := 3) rfl rfl (m_X3_hasWholeLine lau G ad L Hs P Tr Rg (co, len) (rRun d co (min (rErr d co len + 1) len)) ((rRun_ok hX hD (by omega)).1) ((rRun_ok hX hD (by omega)).2.1) ((rRun_ok hX hD (by omega)).2.2)) (by decide) rfl rfl (Nat.le_of_ble_eq_true rfl) ⟨Nat.zero_le _, Nat.zero_le _⟩ (fun r5 u6 w7 => ?_)
    subst w7
    refine v_if_eq F 25 dX5_isWhole_18 (by decide) (fun c8 => ?_) (fun c8 => ?_)
    · replace c8 := bI_f c8
      refine v_iconst (v := nI 0) F dX5_isWhole_25 (by decide) ?_
      exact v_zret F hr hlk hQ rfl dX5_isWhole_26 (()) rfl (by first | exact rAll_1 (by assumption) (by assumption) | exact rAll_2 (by assumption) | exact rAll_3 (by assumption))
    · replace c8 := bI_t c8
      refine v_iconst (v := nI 1) F dX5_isWhole_21 (by decide) ?_
      refine v_goto F 26 dX5_isWhole_22 (by decide) ?_
      exact v_zret F hr hlk hQ rfl dX5_isWhole_26 (()) rfl (by first | exact rAll_1 (by assumption) (by assumption) | exact rAll_2 (by assumption) | exact rAll_3 (by assumption))
set_option maxHeartbeats 4000000 in
set_option maxRecDepth 100000 in
theorem m_X5_lineCount (lau : Launch) (G : GT) (ad : Nat → Nat) (L : LT) (Hs : HT) (P : PT) (Tr : TT) (Rg : RT) (co : Nat → Int32) (len : Nat) (d : DT) (hX : TXOK co len) : MI lau G 0 yX5_lineCount cX5_lineCount 3 (some .int) [.ref (ad 3)] (wC ad G L Hs P Tr Rg (co, len) d) (fun u : Unit => wC ad G L Hs P Tr Rg (co, len) d) (fun r u => r = nI (sc co len + 1)) := by
  have hlen := hX.1
  refine mi_of (by decide +kernel) (Nat.le_of_ble_eq_true rfl) ?_
  intro p e s m args below meth c A Q F hr hlk hQ
  refine v_st (w' := wC ad G L Hs P Tr Rg (co, len) d) (pc' := 0) (st' := []) rfl rfl rfl [0] (lv' := [(0, .ref (ad 3))]) rfl ?_
  refine v_iconst (v := nI 1) F dX5_lineCount_0 (by decide) ?_
  refine v_istore_n (lv' := [(1, .int (nI 1)), (0, .ref (ad 3))]) F dX5_lineCount_1 1 rfl (by decide) rfl ?_
  refine v_iconst (v := nI 0) F dX5_lineCount_2 (by decide) ?_
  refine v_istore_n (lv' := [(2, .int (nI 0)), (1, .int (nI 1)), (0, .ref (ad 3))]) F dX5_lineCount_3 2 rfl (by decide) rfl ?_
  have L4 : ∀ (k_ : Nat) (i : Nat) (k : Nat), len - i < k_ → (i ≤ len) → (k = sc co i + 1) → V p lau e (RM 0) s m args below meth c 3 G A Q (wC ad G L Hs P Tr Rg (co, len) d) 0 0 4 [(2, .int (nI i)), (1, .int (nI k)), (0, .ref (ad 3))] [] := by
    intro k_
    induction k_ with
    | zero => exact fun i k hk_ hi hk => absurd hk_ (Nat.not_lt_zero _)
    | succ k_ ih4 =>
      intro i k hk_4 hi hk
      have hcn := cN_lt co i
      refine v_iload_n F dX5_lineCount_4 2 rfl rfl ?_
      refine v_aload_n F dX5_lineCount_5 0 rfl rfl ?_
      refine v_get (v := .int (nI len)) F inlX5 (ci := 5) rfl 2 (by decide) rfl wF_RX5_22 dX5_lineCount_6 3 rfl rfl ?_
      refine v_icmp_ge F 32 dX5_lineCount_9 (by decide) (fun c1 => ?_) (fun c1 => ?_)
      · replace c1 := nG (a := i) (b := len) (by omega) (by omega) c1
        refine v_iload_n F dX5_lineCount_32 1 rfl rfl ?_
        exact v_iret F hr hlk hQ dX5_lineCount_33 (()) rfl (by rw [hk, show i = len by omega])
      · replace c1 := nGn (a := i) (b := len) (by omega) (by omega) c1
        refine v_aload_n F dX5_lineCount_12 0 rfl rfl ?_
        refine v_get (v := .ref (ad 17)) F inlX5 (ci := 5) rfl 0 (by decide) rfl wF_RX5_9 dX5_lineCount_13 3 rfl rfl ?_
        refine v_iload_n F dX5_lineCount_16 2 rfl rfl ?_
        refine v_ialdN F dX5_lineCount_17 17 rfl i rfl (by omega) (by decide) (co i) rfl ?_
        refine v_topi (nI (cN co i)) (cN_of hX (by omega)) ?_
        refine v_bipush (v := nI 59) F dX5_lineCount_18 (by decide) ?_
        refine v_icmp_ne F 26 dX5_lineCount_20 (by decide) (fun h59 => ?_) (fun h59 => ?_)
        · replace h59 := nEn (a := (cN co i)) (b := 59) (by omega) (by decide) h59
          refine v_iinc (lv' := [(2, .int (nI (i + 1))), (1, .int (nI k)), (0, .ref (ad 3))]) F (nI (i + 1)) dX5_lineCount_26 rfl (nI_add i 1) (by decide) rfl ?_
          refine v_goto F 4 dX5_lineCount_29 (by decide) ?_
          refine v_st (w' := wC ad G L Hs P Tr Rg (co, len) d) (pc' := 4) (st' := []) rfl rfl rfl [0, 1, 2] (lv' := [(2, .int (nI (i + 1))), (1, .int (nI k)), (0, .ref (ad 3))]) rfl ?_
          exact ih4 (i + 1) k (by omega) (by omega) (by simp [sc, *])
        · replace h59 := nE (a := (cN co i)) (b := 59) (by omega) (by decide) h59
          refine v_iinc (lv' := [(1, .int (nI (k + 1))), (2, .int (nI i)), (0, .ref (ad 3))]) F (nI (k + 1)) dX5_lineCount_23 rfl (nI_add k 1) (by decide) rfl ?_
          refine v_iinc (lv' := [(2, .int (nI (i + 1))), (1, .int (nI (k + 1))), (0, .ref (ad 3))]) F (nI (i + 1)) dX5_lineCount_26 rfl (nI_add i 1) (by decide) rfl ?_
          refine v_goto F 4 dX5_lineCount_29 (by decide) ?_
          refine v_st (w' := wC ad G L Hs P Tr Rg (co, len) d) (pc' := 4) (st' := []) rfl rfl rfl [0, 1, 2] (lv' := [(2, .int (nI (i + 1))), (1, .int (nI (k + 1))), (0, .ref (ad 3))]) rfl ?_
          exact ih4 (i + 1) (k + 1) (by omega) (by omega) (by simp [sc, *])
  refine v_st (w' := wC ad G L Hs P Tr Rg (co, len) d) (pc' := 4) (st' := []) rfl rfl rfl [0, 1, 2] (lv' := [(2, .int (nI 0)), (1, .int (nI 1)), (0, .ref (ad 3))]) rfl ?_
  exact L4 _ 0 1 (Nat.lt_succ_self _) (by omega) (rfl)
theorem cs_RX5_41 : CSV RX5 41 RX3 yX3_writeTo cX3_writeTo 2 none 1 := ⟨wC_yX3_writeTo, wM_RX5_41, wIm_yX3_writeTo, wSe_yX3_writeTo, wI_RX3, by decide +kernel, by decide⟩
set_option maxHeartbeats 4000000 in
set_option maxRecDepth 100000 in
theorem m_X5_writeTo (lau : Launch) (G : GT) (ad : Nat → Nat) (T : Nat → Int32) (n mo ver : Nat) (Hs : HT) (P : PT) (Tr : TT) (Rg : RT) (co : Nat → Int32) (len : Nat) (d : DT) (hX : TXOK co len) (hD : DOK d) (hA : rAll d co len = true) (hn : n + (sc co len + 1) ≤ 20) : MV lau G 5 yX5_writeTo cX5_writeTo 3 none [.ref (ad 3), .ref (ad 1)] (wC ad G (T, n, mo, ver) Hs P Tr Rg (co, len) d) (fun u : Unit => wC ad G (rWs d co T n len, n + (sc co len + 1), mo, ver + 6 * (sc co len + 1)) Hs P Tr Rg (co, len) (rRun d co len)) (fun u => True) := by
  have hlen := hX.1
  refine mv_of (by decide +kernel) (Nat.le_of_ble_eq_true rfl) ?_
  intro p e s m args below meth c A Q F hr hlk hQ
  refine v_st (w' := wC ad G (T, n, mo, ver) Hs P Tr Rg (co, len) d) (pc' := 0) (st' := []) rfl rfl rfl [0, 1] (lv' := [(0, .ref (ad 3)), (1, .ref (ad 1))]) rfl ?_
  refine v_aload_n F dX5_writeTo_0 0 rfl rfl ?_
  refine v_get (v := .ref (ad 7)) F inlX5 (ci := 5) rfl 1 (by decide) rfl wF_RX5_18 dX5_writeTo_1 3 rfl rfl ?_
  refine v_cVVF F cs_RX5_26 dX5_writeTo_4 7 (ci := 3) rfl rfl (m_X3_start lau G ad (T, n, mo, ver) Hs P Tr Rg (co, len) d ) (by decide) rfl rfl (Nat.le_of_ble_eq_true rfl) ⟨Nat.zero_le _, Nat.zero_le _⟩ (fun u2 w3 => ?_)
  refine v_iconst (v := nI 0) F dX5_writeTo_7 (by decide) ?_
  refine v_istore_n (lv' := [(2, .int (nI 0)), (0, .ref (ad 3)), (1, .ref (ad 1))]) F dX5_writeTo_8 2 rfl (by decide) rfl ?_
  have L9 : ∀ (k_ : Nat) (i : Nat), len - i < k_ → (i ≤ len) → V p lau e (RM 5) s m args below meth c 3 G A Q (wC ad G (rWg d co T n i, n + sc co i, mo, ver + 6 * sc co i) Hs P Tr Rg (co, len) (rRun d co i)) 0 0 9 [(2, .int (nI i)), (0, .ref (ad 3)), (1, .ref (ad 1))] [] := by
    intro k_
    induction k_ with
    | zero => exact fun i hk_ hi => absurd hk_ (Nat.not_lt_zero _)
    | succ k_ ih9 =>
      intro i hk_9 hi
      have hcn := cN_lt co i
      have hm := sc_le co hi
      refine v_iload_n F dX5_writeTo_9 2 rfl rfl ?_
      refine v_aload_n F dX5_writeTo_10 0 rfl rfl ?_
      refine v_get (v := .int (nI len)) F inlX5 (ci := 5) rfl 2 (by decide) rfl wF_RX5_22 dX5_writeTo_11 3 rfl rfl ?_
      refine v_icmp_ge F 56 dX5_writeTo_14 (by decide) (fun c4 => ?_) (fun c4 => ?_)
      · replace c4 := nG (a := i) (b := len) (by omega) (by omega) c4
        refine v_aload_n F dX5_writeTo_56 0 rfl rfl ?_
        refine v_get (v := .ref (ad 7)) F inlX5 (ci := 5) rfl 1 (by decide) rfl wF_RX5_18 dX5_writeTo_57 3 rfl rfl ?_
        refine v_aload_n F dX5_writeTo_60 1 rfl rfl ?_
        refine v_cVVF F cs_RX5_41 dX5_writeTo_61 7 (ci := 3) rfl rfl (m_X3_writeTo lau G ad (rWg d co T n i) (n + sc co i) mo (ver + 6 * sc co i) Hs P Tr Rg (co, len) (rRun d co i) (by omega) (rAll_end hA (show i = len by omega))) (by decide) rfl rfl (Nat.le_of_ble_eq_true rfl) ⟨Nat.zero_le _, Nat.zero_le _⟩ (fun u6 w7 => ?_)
        refine v_w (w' := wC ad G (rWs d co T n len, n + (sc co len + 1), mo, ver + 6 * (sc co len + 1)) Hs P Tr Rg (co, len) (rRun d co i)) (congrArg (fun z_ => wC ad G z_ Hs P Tr Rg (co, len) (rRun d co i)) (show (rWr ((rRun d co i)) (rWg d co T n i) (n + sc co i), (n + sc co i) + 1, mo, (ver + 6 * sc co i) + 6) = (rWs d co T n len, n + (sc co len + 1), mo, ver + 6 * (sc co len + 1)) by first | rfl | exact rWs_end (show i = len by omega) | rw [show i = len by omega])) ?_
        refine v_w (w' := wC ad G (rWs d co T n len, n + (sc co len + 1), mo, ver + 6 * (sc co len + 1)) Hs P Tr Rg (co, len) (rRun d co len)) (congrArg (fun z_ => wC ad G (rWs d co T n len, n + (sc co len + 1), mo, ver + 6 * (sc co len + 1)) Hs P Tr Rg (co, len) z_) (show (rRun d co i) = (rRun d co len) by first | rfl | exact rWs_end (show i = len by omega) | rw [show i = len by omega])) ?_
        exact v_vret F hr hlk hQ dX5_writeTo_64 (()) rfl (by trivial)
      · replace c4 := nGn (a := i) (b := len) (by omega) (by omega) c4
        refine v_aload_n F dX5_writeTo_17 0 rfl rfl ?_
        refine v_get (v := .ref (ad 17)) F inlX5 (ci := 5) rfl 0 (by decide) rfl wF_RX5_9 dX5_writeTo_18 3 rfl rfl ?_
        refine v_iload_n F dX5_writeTo_21 2 rfl rfl ?_
        refine v_ialdN F dX5_writeTo_22 17 rfl i rfl (by omega) (by decide) (co i) rfl ?_
        refine v_topi (nI (cN co i)) (cN_of hX (by omega)) ?_
        refine v_bipush (v := nI 59) F dX5_writeTo_23 (by decide) ?_
        refine v_icmp_ne F 36 dX5_writeTo_25 (by decide) (fun h59 => ?_) (fun h59 => ?_)
        · replace h59 := nEn (a := (cN co i)) (b := 59) (by omega) (by decide) h59
          refine v_aload_n F dX5_writeTo_36 0 rfl rfl ?_
          refine v_get (v := .ref (ad 7)) F inlX5 (ci := 5) rfl 1 (by decide) rfl wF_RX5_18 dX5_writeTo_37 3 rfl rfl ?_
          refine v_aload_n F dX5_writeTo_40 0 rfl rfl ?_
          refine v_get (v := .ref (ad 17)) F inlX5 (ci := 5) rfl 0 (by decide) rfl wF_RX5_9 dX5_writeTo_41 3 rfl rfl ?_
          refine v_iload_n F dX5_writeTo_44 2 rfl rfl ?_
          refine v_ialdN F dX5_writeTo_45 17 rfl i rfl (by omega) (by decide) (co i) rfl ?_
          refine v_topi (nI (cN co i)) (cN_of hX (by omega)) ?_
          refine v_cVIF F cs_RX5_29 dX5_writeTo_46 7 (ci := 3) rfl rfl (m_X3_takes lau G ad (rWg d co T n i, n + sc co i, mo, ver + 6 * sc co i) Hs P Tr Rg (co, len) ((rRun d co i).1) ((rRun d co i).2.1) ((rRun d co i).2.2.1) ((rRun d co i).2.2.2.1) ((rRun d co i).2.2.2.2.1) ((rRun d co i).2.2.2.2.2) (cN co i) (cN_le hX (by omega)) ((rRun_ok hX hD hi).1) ((rRun_ok hX hD hi).2.1) ((rRun_ok hX hD hi).2.2)) (by decide) rfl rfl (Nat.le_of_ble_eq_true rfl) ⟨Nat.zero_le _, Nat.zero_le _⟩ (fun r8 u9 w10 => ?_)
          subst w10
          refine v_pop F dX5_writeTo_49 rfl ?_
          refine v_iinc (lv' := [(2, .int (nI (i + 1))), (0, .ref (ad 3)), (1, .ref (ad 1))]) F (nI (i + 1)) dX5_writeTo_50 rfl (nI_add i 1) (by decide) rfl ?_
          refine v_goto F 9 dX5_writeTo_53 (by decide) ?_
          refine v_w (w' := wC ad G (rWg d co T n (i + 1), n + sc co (i + 1), mo, ver + 6 * sc co (i + 1)) Hs P Tr Rg (co, len) ((rTakes (((rRun d co i).1), ((rRun d co i).2.1), ((rRun d co i).2.2.1), ((rRun d co i).2.2.2.1), ((rRun d co i).2.2.2.2.1), ((rRun d co i).2.2.2.2.2)) (cN co i)).2)) (congrArg (fun z_ => wC ad G z_ Hs P Tr Rg (co, len) ((rTakes (((rRun d co i).1), ((rRun d co i).2.1), ((rRun d co i).2.2.1), ((rRun d co i).2.2.2.1), ((rRun d co i).2.2.2.2.1), ((rRun d co i).2.2.2.2.2)) (cN co i)).2)) (show (rWg d co T n i, n + sc co i, mo, ver + 6 * sc co i) = (rWg d co T n (i + 1), n + sc co (i + 1), mo, ver + 6 * sc co (i + 1)) by first | rfl | exact rWg_1 h59 | exact rWg_0 h59)) ?_
          refine v_w (w' := wC ad G (rWg d co T n (i + 1), n + sc co (i + 1), mo, ver + 6 * sc co (i + 1)) Hs P Tr Rg (co, len) (rRun d co (i + 1))) (congrArg (fun z_ => wC ad G (rWg d co T n (i + 1), n + sc co (i + 1), mo, ver + 6 * sc co (i + 1)) Hs P Tr Rg (co, len) z_) (show ((rTakes (((rRun d co i).1), ((rRun d co i).2.1), ((rRun d co i).2.2.1), ((rRun d co i).2.2.2.1), ((rRun d co i).2.2.2.2.1), ((rRun d co i).2.2.2.2.2)) (cN co i)).2) = (rRun d co (i + 1)) by first | rfl | exact rWg_1 h59 | exact rWg_0 h59)) ?_
          refine v_st (w' := wC ad G (rWg d co T n (i + 1), n + sc co (i + 1), mo, ver + 6 * sc co (i + 1)) Hs P Tr Rg (co, len) (rRun d co (i + 1))) (pc' := 9) (st' := []) rfl rfl rfl [0, 1, 2] (lv' := [(2, .int (nI (i + 1))), (0, .ref (ad 3)), (1, .ref (ad 1))]) rfl ?_
          exact ih9 (i + 1) (by omega) (by omega)
        · replace h59 := nE (a := (cN co i)) (b := 59) (by omega) (by decide) h59
          refine v_aload_n F dX5_writeTo_28 0 rfl rfl ?_
          refine v_get (v := .ref (ad 7)) F inlX5 (ci := 5) rfl 1 (by decide) rfl wF_RX5_18 dX5_writeTo_29 3 rfl rfl ?_
          refine v_aload_n F dX5_writeTo_32 1 rfl rfl ?_
          refine v_cVVF F cs_RX5_41 dX5_writeTo_33 7 (ci := 3) rfl rfl (m_X3_writeTo lau G ad (rWg d co T n i) (n + sc co i) mo (ver + 6 * sc co i) Hs P Tr Rg (co, len) (rRun d co i) (by omega) (rAll_at hA (by omega) h59)) (by decide) rfl rfl (Nat.le_of_ble_eq_true rfl) ⟨Nat.zero_le _, Nat.zero_le _⟩ (fun u12 w13 => ?_)
          refine v_aload_n F dX5_writeTo_36 0 rfl rfl ?_
          refine v_get (v := .ref (ad 7)) F inlX5 (ci := 5) rfl 1 (by decide) rfl wF_RX5_18 dX5_writeTo_37 3 rfl rfl ?_
          refine v_aload_n F dX5_writeTo_40 0 rfl rfl ?_
          refine v_get (v := .ref (ad 17)) F inlX5 (ci := 5) rfl 0 (by decide) rfl wF_RX5_9 dX5_writeTo_41 3 rfl rfl ?_
          refine v_iload_n F dX5_writeTo_44 2 rfl rfl ?_
          refine v_ialdN F dX5_writeTo_45 17 rfl i rfl (by omega) (by decide) (co i) rfl ?_
          refine v_topi (nI (cN co i)) (cN_of hX (by omega)) ?_
          refine v_cVIF F cs_RX5_29 dX5_writeTo_46 7 (ci := 3) rfl rfl (m_X3_takes lau G ad (rWr ((rRun d co i)) (rWg d co T n i) (n + sc co i), (n + sc co i) + 1, mo, (ver + 6 * sc co i) + 6) Hs P Tr Rg (co, len) ((rRun d co i).1) ((rRun d co i).2.1) ((rRun d co i).2.2.1) ((rRun d co i).2.2.2.1) ((rRun d co i).2.2.2.2.1) ((rRun d co i).2.2.2.2.2) (cN co i) (cN_le hX (by omega)) ((rRun_ok hX hD hi).1) ((rRun_ok hX hD hi).2.1) ((rRun_ok hX hD hi).2.2)) (by decide) rfl rfl (Nat.le_of_ble_eq_true rfl) ⟨Nat.zero_le _, Nat.zero_le _⟩ (fun r14 u15 w16 => ?_)
          subst w16
          refine v_pop F dX5_writeTo_49 rfl ?_
          refine v_iinc (lv' := [(2, .int (nI (i + 1))), (0, .ref (ad 3)), (1, .ref (ad 1))]) F (nI (i + 1)) dX5_writeTo_50 rfl (nI_add i 1) (by decide) rfl ?_
          refine v_goto F 9 dX5_writeTo_53 (by decide) ?_
          refine v_w (w' := wC ad G (rWg d co T n (i + 1), n + sc co (i + 1), mo, ver + 6 * sc co (i + 1)) Hs P Tr Rg (co, len) ((rTakes (((rRun d co i).1), ((rRun d co i).2.1), ((rRun d co i).2.2.1), ((rRun d co i).2.2.2.1), ((rRun d co i).2.2.2.2.1), ((rRun d co i).2.2.2.2.2)) (cN co i)).2)) (congrArg (fun z_ => wC ad G z_ Hs P Tr Rg (co, len) ((rTakes (((rRun d co i).1), ((rRun d co i).2.1), ((rRun d co i).2.2.1), ((rRun d co i).2.2.2.1), ((rRun d co i).2.2.2.2.1), ((rRun d co i).2.2.2.2.2)) (cN co i)).2)) (show (rWr ((rRun d co i)) (rWg d co T n i) (n + sc co i), (n + sc co i) + 1, mo, (ver + 6 * sc co i) + 6) = (rWg d co T n (i + 1), n + sc co (i + 1), mo, ver + 6 * sc co (i + 1)) by first | rfl | exact rWg_1 h59 | exact rWg_0 h59)) ?_
          refine v_w (w' := wC ad G (rWg d co T n (i + 1), n + sc co (i + 1), mo, ver + 6 * sc co (i + 1)) Hs P Tr Rg (co, len) (rRun d co (i + 1))) (congrArg (fun z_ => wC ad G (rWg d co T n (i + 1), n + sc co (i + 1), mo, ver + 6 * sc co (i + 1)) Hs P Tr Rg (co, len) z_) (show ((rTakes (((rRun d co i).1), ((rRun d co i).2.1), ((rRun d co i).2.2.1), ((rRun d co i).2.2.2.1), ((rRun d co i).2.2.2.2.1), ((rRun d co i).2.2.2.2.2)) (cN co i)).2) = (rRun d co (i + 1)) by first | rfl | exact rWg_1 h59 | exact rWg_0 h59)) ?_
          refine v_st (w' := wC ad G (rWg d co T n (i + 1), n + sc co (i + 1), mo, ver + 6 * sc co (i + 1)) Hs P Tr Rg (co, len) (rRun d co (i + 1))) (pc' := 9) (st' := []) rfl rfl rfl [0, 1, 2] (lv' := [(2, .int (nI (i + 1))), (0, .ref (ad 3)), (1, .ref (ad 1))]) rfl ?_
          exact ih9 (i + 1) (by omega) (by omega)
  refine v_w (w' := wC ad G (rWg d co T n 0, n + sc co 0, mo, ver + 6 * sc co 0) Hs P Tr Rg (co, len) (rStart d)) (congrArg (fun z_ => wC ad G z_ Hs P Tr Rg (co, len) (rStart d)) (show (T, n, mo, ver) = (rWg d co T n 0, n + sc co 0, mo, ver + 6 * sc co 0) by first | rfl | exact rWg_1 h59 | exact rWg_0 h59)) ?_
  refine v_w (w' := wC ad G (rWg d co T n 0, n + sc co 0, mo, ver + 6 * sc co 0) Hs P Tr Rg (co, len) (rRun d co 0)) (congrArg (fun z_ => wC ad G (rWg d co T n 0, n + sc co 0, mo, ver + 6 * sc co 0) Hs P Tr Rg (co, len) z_) (show (rStart d) = (rRun d co 0) by first | rfl | exact rWg_1 h59 | exact rWg_0 h59)) ?_
  refine v_st (w' := wC ad G (rWg d co T n 0, n + sc co 0, mo, ver + 6 * sc co 0) Hs P Tr Rg (co, len) (rRun d co 0)) (pc' := 9) (st' := []) rfl rfl rfl [0, 1, 2] (lv' := [(2, .int (nI 0)), (0, .ref (ad 3)), (1, .ref (ad 1))]) rfl ?_
  exact L9 _ 0 (Nat.lt_succ_self _) (by omega)
