set_option maxHeartbeats 600000 in
set_option maxRecDepth 100000 in
theorem m_X7_prune (lau : Launch) (G : GT) (ad : Nat → Nat) (T : Nat → Int32) (n mo ver : Nat) (S : Nat → Int32) (h : Nat) (P : PT) (Tr : TT) (Rg : RT) (Tx : XT) (Rd : DT) (hn : n ≤ 20) (hh : h ≤ 6) (hR : RCI T n ver Rg) : MI lau G 13 yX7_prune cX7_prune 3 (some .int) [.ref (ad 0)] (wC ad G (T, n, mo, ver) (S, h) P Tr Rg Tx Rd) (fun u : RT => wC ad G ((prS (nvr T n n) T n n).1, (prS (nvr T n n) T n n).2.1, mo, ver + (prS (nvr T n n) T n n).2.2) (pSave S h T n mo, pSaveH h) P Tr u Tx Rd) (fun r u => r = bcI (nvr T n n) ∧ RCI T n ver u) := by
  refine mi_of (by decide +kernel) (Nat.le_of_ble_eq_true rfl) ?_
  intro p e s m args below meth c A Q F hr hlk hQ
  refine v_st (w' := wC ad G (T, n, mo, ver) (S, h) P Tr Rg Tx Rd) (pc' := 0) (st' := []) rfl rfl rfl [0] (lv' := [(0, .ref (ad 0))]) rfl ?_
  refine v_aload_n F dX7_prune_0 0 rfl rfl ?_
  refine v_get (v := .ref (ad 6)) F inlX7 (ci := 7) rfl 5 (by decide) rfl wF_RX7_49 dX7_prune_1 0 rfl rfl ?_
  refine v_cVIF F cs_RX7_127 dX7_prune_4 6 (ci := 4) rfl rfl (m_X4_neverLowest lau G ad T n mo ver (S, h) P Tr Rg Tx Rd (by omega) hR) (by decide) rfl rfl (Nat.le_of_ble_eq_true rfl) ⟨Nat.zero_le _, Nat.zero_le _⟩ (fun r1 u2 w3 => ?_)
  obtain ⟨rfl, h4⟩ := w3
  refine v_istore_n (lv' := [(1, .int (nvr T n n)), (0, .ref (ad 0))]) F dX7_prune_7 1 rfl (by decide) rfl ?_
  refine v_aload_n F dX7_prune_8 0 rfl rfl ?_
  refine v_get (v := .ref (ad 2)) F inlX7 (ci := 7) rfl 1 (by decide) rfl wF_RX7_19 dX7_prune_9 0 rfl rfl ?_
  refine v_aload_n F dX7_prune_12 0 rfl rfl ?_
  refine v_get (v := .ref (ad 1)) F inlX7 (ci := 7) rfl 0 (by decide) rfl wF_RX7_10 dX7_prune_13 0 rfl rfl ?_
  refine v_cVVF F cs_RX7_76 dX7_prune_16 2 (ci := 0) rfl rfl (m_X0_save lau G ad T n mo ver S h P Tr u2 Tx Rd (by omega)) (by decide) rfl rfl (Nat.le_of_ble_eq_true rfl) ⟨Nat.zero_le _, Nat.zero_le _⟩ (fun u6 w7 => ?_)
  refine v_aload_n F dX7_prune_19 0 rfl rfl ?_
  refine v_get (v := .ref (ad 1)) F inlX7 (ci := 7) rfl 0 (by decide) rfl wF_RX7_10 dX7_prune_20 0 rfl rfl ?_
  refine v_cVIF F cs_RX7_67 dX7_prune_23 1 (ci := 1) rfl rfl (m_X1_size lau G ad T n mo ver (pSave S h T n mo, pSaveH h) P Tr u2 Tx Rd ) (by decide) rfl rfl (Nat.le_of_ble_eq_true rfl) ⟨Nat.zero_le _, Nat.zero_le _⟩ (fun r8 u9 w10 => ?_)
  subst w10
  refine v_iconst (v := nI 1) F dX7_prune_26 (by decide) ?_
  refine v_isub F dX7_prune_27 ?_
  refine v_istore_n (lv' := [(2, .int (nI n - nI 1)), (1, .int (nvr T n n)), (0, .ref (ad 0))]) F dX7_prune_28 2 rfl (by decide) rfl ?_
  have L29 : ∀ (k_ : Nat) (k : Nat) (iv : Int32), k < k_ → (k ≤ n) → (iv = nI k - nI 1) → V p lau e (RM 13) s m args below meth c 3 G A Q (wC ad G ((prS (nvr T n n) T n (n - k)).1, (prS (nvr T n n) T n (n - k)).2.1, mo, ver + (prS (nvr T n n) T n (n - k)).2.2) (pSave S h T n mo, pSaveH h) P Tr u2 Tx Rd) 0 0 29 [(2, .int iv), (1, .int (nvr T n n)), (0, .ref (ad 0))] [] := by
    intro k_
    induction k_ with
    | zero => exact fun k iv hk_ hk hiv => absurd hk_ (Nat.not_lt_zero _)
    | succ k_ ih29 =>
      intro k iv hk_29 hk hiv
      refine v_iload_n F dX7_prune_29 2 rfl rfl ?_
      refine v_if_lt F 55 dX7_prune_30 (by decide) (fun c11 => ?_) (fun c11 => ?_)
      · have hk0 := pm_lt (by omega) hiv c11
        subst hk0
        refine v_iload_n F dX7_prune_55 1 rfl rfl ?_
        refine v_cSIE F cs_RX7_130 dX7_prune_56 (m_J6_bitCount_0f7a4 lau G (nvr T n n) ) (by decide) rfl rfl (Nat.le_of_ble_eq_true rfl) ⟨Nat.zero_le _, Nat.zero_le _⟩ (fun r12 u13 w14 => ?_)
        subst w14
        refine v_w (w' := wC ad G ((prS (nvr T n n) T n n).1, (prS (nvr T n n) T n n).2.1, mo, ver + (prS (nvr T n n) T n n).2.2) (pSave S h T n mo, pSaveH h) P Tr u2 Tx Rd) (congrArg (fun z_ => wC ad G z_ (pSave S h T n mo, pSaveH h) P Tr u2 Tx Rd) (show ((prS (nvr T n n) T n (n - 0)).1, (prS (nvr T n n) T n (n - 0)).2.1, mo, ver + (prS (nvr T n n) T n (n - 0)).2.2) = ((prS (nvr T n n) T n n).1, (prS (nvr T n n) T n n).2.1, mo, ver + (prS (nvr T n n) T n n).2.2) by first | rfl | (simp; done))) ?_
        exact v_iret F hr hlk hQ dX7_prune_59 (u2) rfl (by exact ⟨rfl, h4⟩)
      · obtain ⟨j, rfl, rfl⟩ := pm_ge hiv c11
        have hpr := prS_n (nvr T n n) T n (n - (j + 1)) (by omega)
        refine v_iload_n F dX7_prune_33 1 rfl rfl ?_
        refine v_iload_n F dX7_prune_34 2 rfl rfl ?_
        refine v_ishr F dX7_prune_35 ?_
        refine v_iconst (v := nI 1) F dX7_prune_36 (by decide) ?_
        refine v_iand F dX7_prune_37 ?_
        refine v_if_eq F 49 dX7_prune_38 (by decide) (fun hbt => ?_) (fun hbt => ?_)
        · refine v_iinc (lv' := [(2, .int (nI j + (-1))), (1, .int (nvr T n n)), (0, .ref (ad 0))]) F ((nI j + (-1))) dX7_prune_49 rfl rfl (by decide) rfl ?_
          refine v_goto F 29 dX7_prune_52 (by decide) ?_
          refine v_w (w' := wC ad G ((prS (nvr T n n) T n (n - j)).1, (prS (nvr T n n) T n (n - j)).2.1, mo, ver + (prS (nvr T n n) T n (n - j)).2.2) (pSave S h T n mo, pSaveH h) P Tr u2 Tx Rd) (congrArg (fun z_ => wC ad G z_ (pSave S h T n mo, pSaveH h) P Tr u2 Tx Rd) (show ((prS (nvr T n n) T n (n - (j + 1))).1, (prS (nvr T n n) T n (n - (j + 1))).2.1, mo, ver + (prS (nvr T n n) T n (n - (j + 1))).2.2) = ((prS (nvr T n n) T n (n - j)).1, (prS (nvr T n n) T n (n - j)).2.1, mo, ver + (prS (nvr T n n) T n (n - j)).2.2) by first | rfl | (rw [Nat.sub_self]; rfl) | exact prL_y (by omega) hbt | exact prL_x (by omega) hbt)) ?_
          refine v_st (w' := wC ad G ((prS (nvr T n n) T n (n - j)).1, (prS (nvr T n n) T n (n - j)).2.1, mo, ver + (prS (nvr T n n) T n (n - j)).2.2) (pSave S h T n mo, pSaveH h) P Tr u2 Tx Rd) (pc' := 29) (st' := []) rfl rfl rfl [0, 1, 2] (lv' := [(2, .int (nI j + (-1))), (1, .int (nvr T n n)), (0, .ref (ad 0))]) rfl ?_
          exact ih29 j (nI j + (-1)) (by omega) (by omega) (pm_st)
        · refine v_aload_n F dX7_prune_41 0 rfl rfl ?_
          refine v_get (v := .ref (ad 1)) F inlX7 (ci := 7) rfl 0 (by decide) rfl wF_RX7_10 dX7_prune_42 0 rfl rfl ?_
          refine v_iload_n F dX7_prune_45 2 rfl rfl ?_
          refine v_cVVF F cs_RX7_123 dX7_prune_46 1 (ci := 1) rfl rfl (m_X1_drop lau G ad ((prS (nvr T n n) T n (n - (j + 1))).1) ((prS (nvr T n n) T n (n - (j + 1))).2.1) mo (ver + (prS (nvr T n n) T n (n - (j + 1))).2.2) (pSave S h T n mo, pSaveH h) P Tr u2 Tx Rd j (by omega) (by omega)) (by decide) rfl rfl (Nat.le_of_ble_eq_true rfl) ⟨Nat.zero_le _, Nat.zero_le _⟩ (fun u16 w17 => ?_)
          refine v_iinc (lv' := [(2, .int (nI j + (-1))), (1, .int (nvr T n n)), (0, .ref (ad 0))]) F ((nI j + (-1))) dX7_prune_49 rfl rfl (by decide) rfl ?_
          refine v_goto F 29 dX7_prune_52 (by decide) ?_
          refine v_w (w' := wC ad G ((prS (nvr T n n) T n (n - j)).1, (prS (nvr T n n) T n (n - j)).2.1, mo, ver + (prS (nvr T n n) T n (n - j)).2.2) (pSave S h T n mo, pSaveH h) P Tr u2 Tx Rd) (congrArg (fun z_ => wC ad G z_ (pSave S h T n mo, pSaveH h) P Tr u2 Tx Rd) (show (pDrop ((prS (nvr T n n) T n (n - (j + 1))).1) ((prS (nvr T n n) T n (n - (j + 1))).2.1) j, ((prS (nvr T n n) T n (n - (j + 1))).2.1) - 1, mo, (ver + (prS (nvr T n n) T n (n - (j + 1))).2.2) + 1) = ((prS (nvr T n n) T n (n - j)).1, (prS (nvr T n n) T n (n - j)).2.1, mo, ver + (prS (nvr T n n) T n (n - j)).2.2) by first | rfl | (rw [Nat.sub_self]; rfl) | exact prL_y (by omega) hbt | exact prL_x (by omega) hbt)) ?_
          refine v_st (w' := wC ad G ((prS (nvr T n n) T n (n - j)).1, (prS (nvr T n n) T n (n - j)).2.1, mo, ver + (prS (nvr T n n) T n (n - j)).2.2) (pSave S h T n mo, pSaveH h) P Tr u2 Tx Rd) (pc' := 29) (st' := []) rfl rfl rfl [0, 1, 2] (lv' := [(2, .int (nI j + (-1))), (1, .int (nvr T n n)), (0, .ref (ad 0))]) rfl ?_
          exact ih29 j (nI j + (-1)) (by omega) (by omega) (pm_st)
  refine v_w (w' := wC ad G ((prS (nvr T n n) T n (n - n)).1, (prS (nvr T n n) T n (n - n)).2.1, mo, ver + (prS (nvr T n n) T n (n - n)).2.2) (pSave S h T n mo, pSaveH h) P Tr u2 Tx Rd) (congrArg (fun z_ => wC ad G z_ (pSave S h T n mo, pSaveH h) P Tr u2 Tx Rd) (show (T, n, mo, ver) = ((prS (nvr T n n) T n (n - n)).1, (prS (nvr T n n) T n (n - n)).2.1, mo, ver + (prS (nvr T n n) T n (n - n)).2.2) by first | rfl | (rw [Nat.sub_self]; rfl) | exact prL_y (by omega) hbt | exact prL_x (by omega) hbt)) ?_
  refine v_st (w' := wC ad G ((prS (nvr T n n) T n (n - n)).1, (prS (nvr T n n) T n (n - n)).2.1, mo, ver + (prS (nvr T n n) T n (n - n)).2.2) (pSave S h T n mo, pSaveH h) P Tr u2 Tx Rd) (pc' := 29) (st' := []) rfl rfl rfl [0, 1, 2] (lv' := [(2, .int (nI n - nI 1)), (1, .int (nvr T n n)), (0, .ref (ad 0))]) rfl ?_
  exact L29 _ n (nI n - nI 1) (Nat.lt_succ_self _) (by omega) (rfl)
theorem cs_RX7_267 : CSV RX7 267 RX7 yX7_sum cX7_sum 6 (some .int) 2 := ⟨wC_yX7_sum, wM_RX7_267, wIm_yX7_sum, wSe_yX7_sum, wI_RX7, by decide +kernel, by decide⟩
set_option maxHeartbeats 600000 in
set_option maxRecDepth 100000 in
theorem m_X7_mean (lau : Launch) (G : GT) (ad : Nat → Nat) (T : Nat → Int32) (n mo ver : Nat) (S : Nat → Int32) (h : Nat) (P : PT) (Tr : TT) (Rg : RT) (Tx : XT) (Rd : DT) (hn : n ≤ 20) (hT : TOK T n) (hP : PCI T n mo ver P) (hC : TCI T n mo ver Tr) (hR : RCI T n ver Rg) : MD lau G 14 yX7_mean cX7_mean 2 (some .double) [.ref (ad 0)] (wC ad G (T, n, mo, ver) (S, h) P Tr Rg Tx Rd) (fun u : PT × TT × RT => wC ad G (T, n, mo, ver) (S, h) u.1 u.2.1 u.2.2 Tx Rd) (fun r u => r = meanV T n mo ∧ PCI T n mo ver u.1 ∧ TCI T n mo ver u.2.1 ∧ RCI T n ver u.2.2) := by
  have hpl := plc_le T n mo (-1) 64
  refine md_of (by decide +kernel) (Nat.le_of_ble_eq_true rfl) ?_
  intro p e s m args below meth c A Q F hr hlk hQ
  refine v_st (w' := wC ad G (T, n, mo, ver) (S, h) P Tr Rg Tx Rd) (pc' := 0) (st' := []) rfl rfl rfl [0] (lv' := [(0, .ref (ad 0))]) rfl ?_
  refine v_bipush (v := nI 64) F dX7_mean_0 (by decide) ?_
  refine v_aload_n F dX7_mean_2 0 rfl rfl ?_
  refine v_get (v := .ref (ad 4)) F inlX7 (ci := 7) rfl 3 (by decide) rfl wF_RX7_35 dX7_mean_3 0 rfl rfl ?_
  refine v_iconst (v := (-1)) F dX7_mean_6 (by decide) ?_
  refine v_cVIF F cs_RX7_185 dX7_mean_7 4 (ci := 2) rfl rfl (m_X2_placesOf lau G ad T n mo ver (S, h) P Tr Rg Tx Rd (-1) (by omega) hP) (by decide) rfl rfl (Nat.le_of_ble_eq_true rfl) ⟨Nat.zero_le _, Nat.zero_le _⟩ (fun r1 u2 w3 => ?_)
  obtain ⟨rfl, h4⟩ := w3
  refine v_isub F dX7_mean_10 ?_
  refine v_topi (nI (64 - plc T n mo (-1) 64)) (pk_sub hpl) ?_
  refine v_istore_n (lv' := [(1, .int (nI (64 - plc T n mo (-1) 64))), (0, .ref (ad 0))]) F dX7_mean_11 1 rfl (by decide) rfl ?_
  refine v_iload_n F dX7_mean_12 1 rfl rfl ?_
  refine v_if_ne F 18 dX7_mean_13 (by decide) (fun c5 => ?_) (fun c5 => ?_)
  · replace c5 := nEn (a := (64 - plc T n mo (-1) 64)) (b := 0) (by omega) (by decide) c5
    refine v_aload_n F dX7_mean_18 0 rfl rfl ?_
    refine v_iconst (v := nI 0) F dX7_mean_19 (by decide) ?_
    refine v_bipush (v := nI 63) F dX7_mean_20 (by decide) ?_
    refine v_cVIF F cs_RX7_267 dX7_mean_22 0 (ci := 7) rfl rfl (m_X7_sum lau G ad T n mo ver S h u2 Tr Rg Tx Rd 0 63 (by omega) (by omega) (by omega) hT h4 hC hR) (by decide) rfl rfl (Nat.le_of_ble_eq_true rfl) ⟨Nat.zero_le _, Nat.zero_le _⟩ (fun r6 u7 w8 => ?_)
    have h9 := w8.2
    refine v_topi ((sm T n mo 0 (63 + 1 - 0))) w8.1 ?_
    refine v_i2d F dX7_mean_25 ?_
    refine v_iload_n F dX7_mean_26 1 rfl rfl ?_
    refine v_i2d F dX7_mean_27 ?_
    refine v_ddiv F dX7_mean_28 (mean_nn T n mo (by omega)) ?_
    exact v_dret F hr hlk hQ dX7_mean_29 ((u7.1, u7.2.1, u7.2.2)) rfl (by refine ⟨?_, h9.1, h9.2.1, h9.2.2⟩; rw [meanV, if_neg (by omega)])
  · replace c5 := nE (a := (64 - plc T n mo (-1) 64)) (b := 0) (by omega) (by decide) c5
    refine v_dconst0 F dX7_mean_16 ?_
    exact v_dret F hr hlk hQ dX7_mean_17 ((u2, Tr, Rg)) rfl (by refine ⟨?_, h4, hC, hR⟩; rw [meanV, if_pos (by omega)])
theorem cs_RX7_275 : CSS RX7 275 yX7_mixed cX7_mixed 4 (some .long) 2 := ⟨wC_yX7_mixed, wM_RX7_275, wSt_yX7_mixed, wI_RX7, by decide +kernel, by decide⟩
theorem cs_RX7_306 : CSV RX7 306 RX7 yX7_line cX7_line 3 (some .int) 2 := ⟨wC_yX7_line, wM_RX7_306, wIm_yX7_line, wSe_yX7_line, wI_RX7, by decide +kernel, by decide⟩
theorem cs_RX7_309 : CSV RX7 309 RX7 yX7_worth cX7_worth 5 (some .int) 1 := ⟨wC_yX7_worth, wM_RX7_309, wIm_yX7_worth, wSe_yX7_worth, wI_RX7, by decide +kernel, by decide⟩
theorem cs_RX7_312 : CSV RX7 312 RX7 yX7_meet cX7_meet 4 (some .int) 2 := ⟨wC_yX7_meet, wM_RX7_312, wIm_yX7_meet, wSe_yX7_meet, wI_RX7, by decide +kernel, by decide⟩
set_option maxHeartbeats 600000 in
set_option maxRecDepth 100000 in
theorem m_X7_mixedLines (lau : Launch) (G : GT) (ad : Nat → Nat) (T : Nat → Int32) (n mo ver : Nat) (S : Nat → Int32) (h : Nat) (P : PT) (Tr : TT) (Rg : RT) (Tx : XT) (Rd : DT) (a : Int64) (hn : n ≤ 20) (hT : TOK T n) (hP : PCI T n mo ver P) (hC : TCI T n mo ver Tr) (hR : RCI T n ver Rg) : ML lau G 15 yX7_mixedLines cX7_mixedLines 7 (some .long) [.ref (ad 0), .long a] (wC ad G (T, n, mo, ver) (S, h) P Tr Rg Tx Rd) (fun u : PT × TT × RT => wC ad G (T, n, mo, ver) (S, h) u.1 u.2.1 u.2.2 Tx Rd) (fun r u => r = dLi T n mo a n ∧ PCI T n mo ver u.1 ∧ TCI T n mo ver u.2.1 ∧ RCI T n ver u.2.2) := by
  refine ml_of (by decide +kernel) (Nat.le_of_ble_eq_true rfl) ?_
  intro p e s m args below meth c A Q F hr hlk hQ
  refine v_st (w' := wC ad G (T, n, mo, ver) (S, h) P Tr Rg Tx Rd) (pc' := 0) (st' := []) rfl rfl rfl [0, 1] (lv' := [(0, .ref (ad 0)), (1, .long a)]) rfl ?_
  refine v_lload_n F dX7_mixedLines_0 1 rfl rfl ?_
  refine v_lstore_n (lv' := [(3, .long a), (0, .ref (ad 0)), (1, .long a)]) F dX7_mixedLines_1 3 rfl (by decide) rfl ?_
  refine v_iconst (v := nI 0) F dX7_mixedLines_2 (by decide) ?_
  refine v_istore (lv' := [(5, .int (nI 0)), (3, .long a), (0, .ref (ad 0)), (1, .long a)]) F dX7_mixedLines_3 (by decide) rfl ?_
  have L5 : ∀ (k_ : Nat) (i : Nat) (b : Int64) (P_ : PT) (Tr_ : TT) (Rg_ : RT), n - i < k_ → (i ≤ n) → (b = dLi T n mo a i) → (PCI T n mo ver P_) → (TCI T n mo ver Tr_) → (RCI T n ver Rg_) → V p lau e (RM 15) s m args below meth c 7 G A Q (wC ad G (T, n, mo, ver) (S, h) P_ Tr_ Rg_ Tx Rd) 0 0 5 [(5, .int (nI i)), (3, .long b), (0, .ref (ad 0)), (1, .long a)] [] := by
    intro k_
    induction k_ with
    | zero => exact fun i b P_ Tr_ Rg_ hk_ hi hb hP_ hC_ hR_ => absurd hk_ (Nat.not_lt_zero _)
    | succ k_ ih5 =>
      intro i b P_ Tr_ Rg_ hk_5 hi hb hP_ hC_ hR_
      refine v_iload F dX7_mixedLines_5 rfl ?_
      refine v_aload_n F dX7_mixedLines_7 0 rfl rfl ?_
      refine v_get (v := .ref (ad 1)) F inlX7 (ci := 7) rfl 0 (by decide) rfl wF_RX7_10 dX7_mixedLines_8 0 rfl rfl ?_
      refine v_cVIF F cs_RX7_67 dX7_mixedLines_11 1 (ci := 1) rfl rfl (m_X1_size lau G ad T n mo ver (S, h) P_ Tr_ Rg_ Tx Rd ) (by decide) rfl rfl (Nat.le_of_ble_eq_true rfl) ⟨Nat.zero_le _, Nat.zero_le _⟩ (fun r1 u2 w3 => ?_)
      subst w3
      refine v_icmp_ge F 83 dX7_mixedLines_14 (by decide) (fun c4 => ?_) (fun c4 => ?_)
      · replace c4 := nG (a := i) (b := n) (by omega) (by omega) c4
        refine v_lload_n F dX7_mixedLines_83 3 rfl rfl ?_
        exact v_lret F hr hlk hQ dX7_mixedLines_84 ((P_, Tr_, Rg_)) rfl (by refine ⟨?_, hP_, hC_, hR_⟩; rw [hb, show i = n by omega])
      · replace c4 := nGn (a := i) (b := n) (by omega) (by omega) c4
        refine v_iconst (v := nI 0) F dX7_mixedLines_17 (by decide) ?_
        refine v_istore (lv' := [(6, .int (nI 0)), (5, .int (nI i)), (3, .long b), (0, .ref (ad 0)), (1, .long a)]) F dX7_mixedLines_18 (by decide) rfl ?_
        have L20 : ∀ (k_ : Nat) (j : Nat) (b : Int64) (P_ : PT) (Tr_ : TT) (Rg_ : RT), 9 - j < k_ → (j ≤ 9) → (b = mxN (linV T n mo i) (dLi T n mo a i) j) → (PCI T n mo ver P_) → (TCI T n mo ver Tr_) → (RCI T n ver Rg_) → V p lau e (RM 15) s m args below meth c 7 G A Q (wC ad G (T, n, mo, ver) (S, h) P_ Tr_ Rg_ Tx Rd) 0 0 20 [(6, .int (nI j)), (5, .int (nI i)), (3, .long b), (0, .ref (ad 0)), (1, .long a)] [] := by
          intro k_
          induction k_ with
          | zero => exact fun j b P_ Tr_ Rg_ hk_ hj hb hP_ hC_ hR_ => absurd hk_ (Nat.not_lt_zero _)
          | succ k_ ih20 =>
            intro j b P_ Tr_ Rg_ hk_20 hj hb hP_ hC_ hR_
            refine v_iload F dX7_mixedLines_20 rfl ?_
            refine v_bipush (v := nI 8) F dX7_mixedLines_22 (by decide) ?_
            refine v_icmp_gt F 47 dX7_mixedLines_24 (by decide) (fun c5 => ?_) (fun c5 => ?_)
            · replace c5 := nT (a := j) (b := 8) (by omega) (by decide) c5
              have hj9 : j = 9 := by omega
              subst hj9
              refine v_lload_n F dX7_mixedLines_47 3 rfl rfl ?_
              refine v_aload_n F dX7_mixedLines_48 0 rfl rfl ?_
              refine v_iload F dX7_mixedLines_49 rfl ?_
              refine v_cVIF F cs_RX7_309 dX7_mixedLines_51 0 (ci := 7) rfl rfl (m_X7_worth lau G ad T n mo ver S h P_ Tr_ Rg_ Tx Rd i (by omega) (by omega) hT hP_ hC_ hR_) (by decide) rfl rfl (Nat.le_of_ble_eq_true rfl) ⟨Nat.zero_le _, Nat.zero_le _⟩ (fun r6 u7 w8 => ?_)
              have h9 := w8.2
              refine v_topi ((woV T n mo i)) w8.1 ?_
              refine v_i2l F dX7_mixedLines_54 ?_
              refine v_cSLE F cs_RX7_275 dX7_mixedLines_55 (m_X7_mixed lau G b (((woV T n mo i)).toInt64) ) (by decide) rfl rfl (Nat.le_of_ble_eq_true rfl) ⟨Nat.zero_le _, Nat.zero_le _⟩ (fun r10 u11 w12 => ?_)
              subst w12
              refine v_lstore_n (lv' := [(3, .long (31 * b + (((woV T n mo i)).toInt64))), (6, .int (nI 9)), (5, .int (nI i)), (0, .ref (ad 0)), (1, .long a)]) F dX7_mixedLines_58 3 rfl (by decide) rfl ?_
              refine v_iload F dX7_mixedLines_59 rfl ?_
              refine v_if_eq F 77 dX7_mixedLines_61 (by decide) (fun hi0 => ?_) (fun hi0 => ?_)
              · replace hi0 := nE (a := i) (b := 0) (by omega) (by decide) hi0
                refine v_iinc (lv' := [(5, .int (nI (i + 1))), (3, .long (31 * b + (((woV T n mo i)).toInt64))), (6, .int (nI 9)), (0, .ref (ad 0)), (1, .long a)]) F (nI (i + 1)) dX7_mixedLines_77 rfl (nI_add i 1) (by decide) rfl ?_
                refine v_goto F 5 dX7_mixedLines_80 (by decide) ?_
                refine v_st (w' := wC ad G (T, n, mo, ver) (S, h) u7.1 u7.2.1 u7.2.2 Tx Rd) (pc' := 5) (st' := []) rfl rfl rfl [0, 1, 3, 4] (lv' := [(5, .int (nI (i + 1))), (3, .long (31 * b + (((woV T n mo i)).toInt64))), (0, .ref (ad 0)), (1, .long a)]) rfl ?_
                exact ih5 (i + 1) (31 * b + (((woV T n mo i)).toInt64)) u7.1 u7.2.1 u7.2.2 (by omega) (by omega) (by rw [hb]; first | (rw [dLi, if_pos hi0]; done) | (rw [dLi, if_neg hi0]; done)) (h9.1) (h9.2.1) (h9.2.2)
              · replace hi0 := nEn (a := i) (b := 0) (by omega) (by decide) hi0
                refine v_lload_n F dX7_mixedLines_64 3 rfl rfl ?_
                refine v_aload_n F dX7_mixedLines_65 0 rfl rfl ?_
                refine v_iload F dX7_mixedLines_66 rfl ?_
                refine v_iconst (v := nI 0) F dX7_mixedLines_68 (by decide) ?_
                refine v_cVIF F cs_RX7_312 dX7_mixedLines_69 0 (ci := 7) rfl rfl (m_X7_meet lau G ad T n mo ver S h u7.1 u7.2.1 u7.2.2 Tx Rd i 0 (by omega) (by omega) (by omega) (by omega) hT h9.1 h9.2.1 h9.2.2) (by decide) rfl rfl (Nat.le_of_ble_eq_true rfl) ⟨Nat.zero_le _, Nat.zero_le _⟩ (fun r13 u14 w15 => ?_)
                have h16 := w15.2
                refine v_topi ((meV T i 0)) w15.1 ?_
                refine v_i2l F dX7_mixedLines_72 ?_
                refine v_cSLE F cs_RX7_275 dX7_mixedLines_73 (m_X7_mixed lau G (31 * b + (((woV T n mo i)).toInt64)) (((meV T i 0)).toInt64) ) (by decide) rfl rfl (Nat.le_of_ble_eq_true rfl) ⟨Nat.zero_le _, Nat.zero_le _⟩ (fun r17 u18 w19 => ?_)
                subst w19
                refine v_lstore_n (lv' := [(3, .long (31 * (31 * b + (((woV T n mo i)).toInt64)) + (((meV T i 0)).toInt64))), (6, .int (nI 9)), (5, .int (nI i)), (0, .ref (ad 0)), (1, .long a)]) F dX7_mixedLines_76 3 rfl (by decide) rfl ?_
                refine v_iinc (lv' := [(5, .int (nI (i + 1))), (3, .long (31 * (31 * b + (((woV T n mo i)).toInt64)) + (((meV T i 0)).toInt64))), (6, .int (nI 9)), (0, .ref (ad 0)), (1, .long a)]) F (nI (i + 1)) dX7_mixedLines_77 rfl (nI_add i 1) (by decide) rfl ?_
                refine v_goto F 5 dX7_mixedLines_80 (by decide) ?_
                refine v_st (w' := wC ad G (T, n, mo, ver) (S, h) u14.1 u14.2.1 u14.2.2 Tx Rd) (pc' := 5) (st' := []) rfl rfl rfl [0, 1, 3, 4] (lv' := [(5, .int (nI (i + 1))), (3, .long (31 * (31 * b + (((woV T n mo i)).toInt64)) + (((meV T i 0)).toInt64))), (0, .ref (ad 0)), (1, .long a)]) rfl ?_
                exact ih5 (i + 1) (31 * (31 * b + (((woV T n mo i)).toInt64)) + (((meV T i 0)).toInt64)) u14.1 u14.2.1 u14.2.2 (by omega) (by omega) (by rw [hb]; first | (rw [dLi, if_pos hi0]; done) | (rw [dLi, if_neg hi0]; done)) (h16.1) (h16.2.1) (h16.2.2)
            · replace c5 := nTn (a := j) (b := 8) (by omega) (by decide) c5
              refine v_lload_n F dX7_mixedLines_27 3 rfl rfl ?_
              refine v_aload_n F dX7_mixedLines_28 0 rfl rfl ?_
              refine v_iload F dX7_mixedLines_29 rfl ?_
              refine v_iload F dX7_mixedLines_31 rfl ?_
              refine v_cVIF F cs_RX7_306 dX7_mixedLines_33 0 (ci := 7) rfl rfl (m_X7_line lau G ad T n mo ver S h P_ Tr_ Rg_ Tx Rd i j (by omega) (by omega) (by omega) hT hP_ hC_ hR_) (by decide) rfl rfl (Nat.le_of_ble_eq_true rfl) ⟨Nat.zero_le _, Nat.zero_le _⟩ (fun r20 u21 w22 => ?_)
              have h23 := w22.2
              refine v_topi ((linV T n mo i j)) w22.1 ?_
              refine v_i2l F dX7_mixedLines_36 ?_
              refine v_cSLE F cs_RX7_275 dX7_mixedLines_37 (m_X7_mixed lau G b (((linV T n mo i j)).toInt64) ) (by decide) rfl rfl (Nat.le_of_ble_eq_true rfl) ⟨Nat.zero_le _, Nat.zero_le _⟩ (fun r24 u25 w26 => ?_)
              subst w26
              refine v_lstore_n (lv' := [(3, .long (31 * b + (((linV T n mo i j)).toInt64))), (6, .int (nI j)), (5, .int (nI i)), (0, .ref (ad 0)), (1, .long a)]) F dX7_mixedLines_40 3 rfl (by decide) rfl ?_
              refine v_iinc (lv' := [(6, .int (nI (j + 1))), (3, .long (31 * b + (((linV T n mo i j)).toInt64))), (5, .int (nI i)), (0, .ref (ad 0)), (1, .long a)]) F (nI (j + 1)) dX7_mixedLines_41 rfl (nI_add j 1) (by decide) rfl ?_
              refine v_goto F 20 dX7_mixedLines_44 (by decide) ?_
              refine v_st (w' := wC ad G (T, n, mo, ver) (S, h) u21.1 u21.2.1 u21.2.2 Tx Rd) (pc' := 20) (st' := []) rfl rfl rfl [0, 2, 1, 3, 4] (lv' := [(6, .int (nI (j + 1))), (5, .int (nI i)), (3, .long (31 * b + (((linV T n mo i j)).toInt64))), (0, .ref (ad 0)), (1, .long a)]) rfl ?_
              exact ih20 (j + 1) (31 * b + (((linV T n mo i j)).toInt64)) u21.1 u21.2.1 u21.2.2 (by omega) (by omega) (by rw [hb]; rfl) (h23.1) (h23.2.1) (h23.2.2)
        refine v_st (w' := wC ad G (T, n, mo, ver) (S, h) P_ Tr_ Rg_ Tx Rd) (pc' := 20) (st' := []) rfl rfl rfl [0, 1, 2, 3, 4] (lv' := [(6, .int (nI 0)), (5, .int (nI i)), (3, .long b), (0, .ref (ad 0)), (1, .long a)]) rfl ?_
        exact L20 _ 0 b P_ Tr_ Rg_ (Nat.lt_succ_self _) (by omega) (hb) (hP_) (hC_) (hR_)
  refine v_st (w' := wC ad G (T, n, mo, ver) (S, h) P Tr Rg Tx Rd) (pc' := 5) (st' := []) rfl rfl rfl [0, 1, 2, 3] (lv' := [(5, .int (nI 0)), (3, .long a), (0, .ref (ad 0)), (1, .long a)]) rfl ?_
  exact L5 _ 0 a P Tr Rg (Nat.lt_succ_self _) (by omega) (rfl) (hP) (hC) (hR)
theorem cs_RX7_315 : CSV RX7 315 RX7 yX7_node cX7_node 3 (some .int) 2 := ⟨wC_yX7_node, wM_RX7_315, wIm_yX7_node, wSe_yX7_node, wI_RX7, by decide +kernel, by decide⟩
set_option maxHeartbeats 600000 in
set_option maxRecDepth 100000 in
theorem m_X7_mixedTree (lau : Launch) (G : GT) (ad : Nat → Nat) (T : Nat → Int32) (n mo ver : Nat) (S : Nat → Int32) (h : Nat) (P : PT) (Tr : TT) (Rg : RT) (Tx : XT) (Rd : DT) (a : Int64) (hn : n ≤ 20) (hT : TOK T n) (hP : PCI T n mo ver P) (hC : TCI T n mo ver Tr) (hR : RCI T n ver Rg) : ML lau G 15 yX7_mixedTree cX7_mixedTree 7 (some .long) [.ref (ad 0), .long a] (wC ad G (T, n, mo, ver) (S, h) P Tr Rg Tx Rd) (fun u : PT × TT × RT => wC ad G (T, n, mo, ver) (S, h) u.1 u.2.1 u.2.2 Tx Rd) (fun r u => r = dTr T n mo a 127 ∧ PCI T n mo ver u.1 ∧ TCI T n mo ver u.2.1 ∧ RCI T n ver u.2.2) := by
  refine ml_of (by decide +kernel) (Nat.le_of_ble_eq_true rfl) ?_
  intro p e s m args below meth c A Q F hr hlk hQ
  refine v_st (w' := wC ad G (T, n, mo, ver) (S, h) P Tr Rg Tx Rd) (pc' := 0) (st' := []) rfl rfl rfl [0, 1] (lv' := [(0, .ref (ad 0)), (1, .long a)]) rfl ?_
  refine v_lload_n F dX7_mixedTree_0 1 rfl rfl ?_
  refine v_lstore_n (lv' := [(3, .long a), (0, .ref (ad 0)), (1, .long a)]) F dX7_mixedTree_1 3 rfl (by decide) rfl ?_
  refine v_iconst (v := nI 1) F dX7_mixedTree_2 (by decide) ?_
  refine v_istore (lv' := [(5, .int (nI 1)), (3, .long a), (0, .ref (ad 0)), (1, .long a)]) F dX7_mixedTree_3 (by decide) rfl ?_
  have L5 : ∀ (k_ : Nat) (i : Nat) (b : Int64) (P_ : PT) (Tr_ : TT) (Rg_ : RT), 127 - i < k_ → (i ≤ 127) → (b = dTr T n mo a i) → (PCI T n mo ver P_) → (TCI T n mo ver Tr_) → (RCI T n ver Rg_) → V p lau e (RM 15) s m args below meth c 7 G A Q (wC ad G (T, n, mo, ver) (S, h) P_ Tr_ Rg_ Tx Rd) 0 0 5 [(5, .int (nI (i + 1))), (3, .long b), (0, .ref (ad 0)), (1, .long a)] [] := by
    intro k_
    induction k_ with
    | zero => exact fun i b P_ Tr_ Rg_ hk_ hi hb hP_ hC_ hR_ => absurd hk_ (Nat.not_lt_zero _)
    | succ k_ ih5 =>
      intro i b P_ Tr_ Rg_ hk_5 hi hb hP_ hC_ hR_
      refine v_iload F dX7_mixedTree_5 rfl ?_
      refine v_bipush (v := nI 127) F dX7_mixedTree_7 (by decide) ?_
      refine v_icmp_gt F 68 dX7_mixedTree_9 (by decide) (fun c1 => ?_) (fun c1 => ?_)
      · replace c1 := nT (a := (i + 1)) (b := 127) (by omega) (by decide) c1
        refine v_lload_n F dX7_mixedTree_68 3 rfl rfl ?_
        exact v_lret F hr hlk hQ dX7_mixedTree_69 ((P_, Tr_, Rg_)) rfl (by refine ⟨?_, hP_, hC_, hR_⟩; rw [hb, show i = 127 by omega])
      · replace c1 := nTn (a := (i + 1)) (b := 127) (by omega) (by decide) c1
        refine v_aload_n F dX7_mixedTree_12 0 rfl rfl ?_
        refine v_get (v := .ref (ad 5)) F inlX7 (ci := 7) rfl 4 (by decide) rfl wF_RX7_42 dX7_mixedTree_13 0 rfl rfl ?_
        refine v_iload F dX7_mixedTree_16 rfl ?_
        refine v_cVIF F cs_RX7_217 dX7_mixedTree_18 5 (ci := 6) rfl rfl (m_X6_lineOf lau G ad T n mo ver (S, h) P_ Tr_ Rg_ Tx Rd (i + 1) (by omega) (by omega) (by omega) hT hC_) (by decide) rfl rfl (Nat.le_of_ble_eq_true rfl) ⟨Nat.zero_le _, Nat.zero_le _⟩ (fun r2 u3 w4 => ?_)
        obtain ⟨rfl, h5⟩ := w4
        refine v_iconst (v := (-1)) F dX7_mixedTree_21 (by decide) ?_
        refine v_icmp_eq F 62 dX7_mixedTree_22 (by decide) (fun hkp => ?_) (fun hkp => ?_)
        · refine v_iinc (lv' := [(5, .int (nI ((i + 1) + 1))), (3, .long b), (0, .ref (ad 0)), (1, .long a)]) F (nI ((i + 1) + 1)) dX7_mixedTree_62 rfl (nI_add (i + 1) 1) (by decide) rfl ?_
          refine v_goto F 5 dX7_mixedTree_65 (by decide) ?_
          refine v_st (w' := wC ad G (T, n, mo, ver) (S, h) P_ u3 Rg_ Tx Rd) (pc' := 5) (st' := []) rfl rfl rfl [0, 1, 2, 3] (lv' := [(5, .int (nI ((i + 1) + 1))), (3, .long b), (0, .ref (ad 0)), (1, .long a)]) rfl ?_
          exact ih5 (i + 1) b P_ u3 Rg_ (by omega) (by omega) (by subst hb; first | exact dTr_0 hkp | exact dTr_1 hkp) (hP_) (h5) (hR_)
        · refine v_lload_n F dX7_mixedTree_25 3 rfl rfl ?_
          refine v_iload F dX7_mixedTree_26 rfl ?_
          refine v_i2l F dX7_mixedTree_28 ?_
          refine v_cSLE F cs_RX7_275 dX7_mixedTree_29 (m_X7_mixed lau G b ((nI (i + 1)).toInt64) ) (by decide) rfl rfl (Nat.le_of_ble_eq_true rfl) ⟨Nat.zero_le _, Nat.zero_le _⟩ (fun r6 u7 w8 => ?_)
          subst w8
          refine v_lstore_n (lv' := [(3, .long (31 * b + ((nI (i + 1)).toInt64))), (5, .int (nI (i + 1))), (0, .ref (ad 0)), (1, .long a)]) F dX7_mixedTree_32 3 rfl (by decide) rfl ?_
          refine v_iconst (v := nI 0) F dX7_mixedTree_33 (by decide) ?_
          refine v_istore (lv' := [(6, .int (nI 0)), (3, .long (31 * b + ((nI (i + 1)).toInt64))), (5, .int (nI (i + 1))), (0, .ref (ad 0)), (1, .long a)]) F dX7_mixedTree_34 (by decide) rfl ?_
          have L36 : ∀ (k_ : Nat) (j : Nat) (b : Int64) (P_ : PT) (Tr_ : TT) (Rg_ : RT), 5 - j < k_ → (j ≤ 5) → (b = mxN (ndV T n mo (i + 1)) (31 * dTr T n mo a i + (nI (i + 1)).toInt64) j) → (PCI T n mo ver P_) → (TCI T n mo ver Tr_) → (RCI T n ver Rg_) → V p lau e (RM 15) s m args below meth c 7 G A Q (wC ad G (T, n, mo, ver) (S, h) P_ Tr_ Rg_ Tx Rd) 0 0 36 [(6, .int (nI j)), (3, .long b), (5, .int (nI (i + 1))), (0, .ref (ad 0)), (1, .long a)] [] := by
            intro k_
            induction k_ with
            | zero => exact fun j b P_ Tr_ Rg_ hk_ hj hb hP_ hC_ hR_ => absurd hk_ (Nat.not_lt_zero _)
            | succ k_ ih36 =>
              intro j b P_ Tr_ Rg_ hk_36 hj hb hP_ hC_ hR_
              refine v_iload F dX7_mixedTree_36 rfl ?_
              refine v_iconst (v := nI 4) F dX7_mixedTree_38 (by decide) ?_
              refine v_icmp_gt F 62 dX7_mixedTree_39 (by decide) (fun c9 => ?_) (fun c9 => ?_)
              · replace c9 := nT (a := j) (b := 4) (by omega) (by decide) c9
                have hj9 : j = 5 := by omega
                subst hj9
                refine v_iinc (lv' := [(5, .int (nI ((i + 1) + 1))), (6, .int (nI 5)), (3, .long b), (0, .ref (ad 0)), (1, .long a)]) F (nI ((i + 1) + 1)) dX7_mixedTree_62 rfl (nI_add (i + 1) 1) (by decide) rfl ?_
                refine v_goto F 5 dX7_mixedTree_65 (by decide) ?_
                refine v_st (w' := wC ad G (T, n, mo, ver) (S, h) P_ Tr_ Rg_ Tx Rd) (pc' := 5) (st' := []) rfl rfl rfl [0, 2, 3, 4] (lv' := [(5, .int (nI ((i + 1) + 1))), (3, .long b), (0, .ref (ad 0)), (1, .long a)]) rfl ?_
                exact ih5 (i + 1) b P_ Tr_ Rg_ (by omega) (by omega) (by subst hb; first | exact dTr_0 hkp | exact dTr_1 hkp) (hP_) (hC_) (hR_)
              · replace c9 := nTn (a := j) (b := 4) (by omega) (by decide) c9
                refine v_lload_n F dX7_mixedTree_42 3 rfl rfl ?_
                refine v_aload_n F dX7_mixedTree_43 0 rfl rfl ?_
                refine v_iload F dX7_mixedTree_44 rfl ?_
                refine v_iload F dX7_mixedTree_46 rfl ?_
                refine v_cVIF F cs_RX7_315 dX7_mixedTree_48 0 (ci := 7) rfl rfl (m_X7_node lau G ad T n mo ver S h P_ Tr_ Rg_ Tx Rd (i + 1) j (by omega) (by omega) (by omega) hT hP_ hC_ hR_) (by decide) rfl rfl (Nat.le_of_ble_eq_true rfl) ⟨Nat.zero_le _, Nat.zero_le _⟩ (fun r10 u11 w12 => ?_)
                have h13 := w12.2
                refine v_topi ((ndV T n mo (i + 1) j)) w12.1 ?_
                refine v_i2l F dX7_mixedTree_51 ?_
                refine v_cSLE F cs_RX7_275 dX7_mixedTree_52 (m_X7_mixed lau G b (((ndV T n mo (i + 1) j)).toInt64) ) (by decide) rfl rfl (Nat.le_of_ble_eq_true rfl) ⟨Nat.zero_le _, Nat.zero_le _⟩ (fun r14 u15 w16 => ?_)
                subst w16
                refine v_lstore_n (lv' := [(3, .long (31 * b + (((ndV T n mo (i + 1) j)).toInt64))), (6, .int (nI j)), (5, .int (nI (i + 1))), (0, .ref (ad 0)), (1, .long a)]) F dX7_mixedTree_55 3 rfl (by decide) rfl ?_
                refine v_iinc (lv' := [(6, .int (nI (j + 1))), (3, .long (31 * b + (((ndV T n mo (i + 1) j)).toInt64))), (5, .int (nI (i + 1))), (0, .ref (ad 0)), (1, .long a)]) F (nI (j + 1)) dX7_mixedTree_56 rfl (nI_add j 1) (by decide) rfl ?_
                refine v_goto F 36 dX7_mixedTree_59 (by decide) ?_
                refine v_st (w' := wC ad G (T, n, mo, ver) (S, h) u11.1 u11.2.1 u11.2.2 Tx Rd) (pc' := 36) (st' := []) rfl rfl rfl [0, 1, 2, 3, 4] (lv' := [(6, .int (nI (j + 1))), (3, .long (31 * b + (((ndV T n mo (i + 1) j)).toInt64))), (5, .int (nI (i + 1))), (0, .ref (ad 0)), (1, .long a)]) rfl ?_
                exact ih36 (j + 1) (31 * b + (((ndV T n mo (i + 1) j)).toInt64)) u11.1 u11.2.1 u11.2.2 (by omega) (by omega) (by rw [hb]; rfl) (h13.1) (h13.2.1) (h13.2.2)
          refine v_st (w' := wC ad G (T, n, mo, ver) (S, h) P_ u3 Rg_ Tx Rd) (pc' := 36) (st' := []) rfl rfl rfl [0, 1, 2, 3, 4] (lv' := [(6, .int (nI 0)), (3, .long (31 * b + ((nI (i + 1)).toInt64))), (5, .int (nI (i + 1))), (0, .ref (ad 0)), (1, .long a)]) rfl ?_
          exact L36 _ 0 (31 * b + ((nI (i + 1)).toInt64)) P_ u3 Rg_ (Nat.lt_succ_self _) (by omega) (by rw [hb]; rfl) (hP_) (h5) (hR_)
  refine v_st (w' := wC ad G (T, n, mo, ver) (S, h) P Tr Rg Tx Rd) (pc' := 5) (st' := []) rfl rfl rfl [0, 1, 2, 3] (lv' := [(5, .int (nI 1)), (3, .long a), (0, .ref (ad 0)), (1, .long a)]) rfl ?_
  exact L5 _ 0 a P Tr Rg (Nat.lt_succ_self _) (by omega) (rfl) (hP) (hC) (hR)
theorem cs_RX7_318 : CSV RX7 318 RX7 yX7_row cX7_row 4 (some .int) 2 := ⟨wC_yX7_row, wM_RX7_318, wIm_yX7_row, wSe_yX7_row, wI_RX7, by decide +kernel, by decide⟩
theorem cs_RX7_321 : CSV RX7 321 RX7 yX7_lowest cX7_lowest 3 (some .int) 2 := ⟨wC_yX7_lowest, wM_RX7_321, wIm_yX7_lowest, wSe_yX7_lowest, wI_RX7, by decide +kernel, by decide⟩
theorem cs_RX7_324 : CSV RX7 324 RX7 yX7_ranked cX7_ranked 4 (some .int) 2 := ⟨wC_yX7_ranked, wM_RX7_324, wIm_yX7_ranked, wSe_yX7_ranked, wI_RX7, by decide +kernel, by decide⟩
theorem cs_RX7_327 : CSV RX7 327 RX7 yX7_changesAt cX7_changesAt 4 (some .int) 1 := ⟨wC_yX7_changesAt, wM_RX7_327, wIm_yX7_changesAt, wSe_yX7_changesAt, wI_RX7, by decide +kernel, by decide⟩
set_option maxHeartbeats 600000 in
set_option maxRecDepth 100000 in
theorem m_X7_mixedPlaces (lau : Launch) (G : GT) (ad : Nat → Nat) (T : Nat → Int32) (n mo ver : Nat) (S : Nat → Int32) (h : Nat) (P : PT) (Tr : TT) (Rg : RT) (Tx : XT) (Rd : DT) (a : Int64) (hn : n ≤ 20) (hT : TOK T n) (hP : PCI T n mo ver P) (hC : TCI T n mo ver Tr) (hR : RCI T n ver Rg) (hmo : mo < 100) : ML lau G 15 yX7_mixedPlaces cX7_mixedPlaces 7 (some .long) [.ref (ad 0), .long a] (wC ad G (T, n, mo, ver) (S, h) P Tr Rg Tx Rd) (fun u : PT × TT × RT => wC ad G (T, n, mo, ver) (S, h) u.1 u.2.1 u.2.2 Tx Rd) (fun r u => r = dPs T n mo a ∧ PCI T n mo ver u.1 ∧ TCI T n mo ver u.2.1 ∧ RCI T n ver u.2.2) := by
  have hrc := rc_le T n mo 64
  refine ml_of (by decide +kernel) (Nat.le_of_ble_eq_true rfl) ?_
  intro p e s m args below meth c A Q F hr hlk hQ
  refine v_st (w' := wC ad G (T, n, mo, ver) (S, h) P Tr Rg Tx Rd) (pc' := 0) (st' := []) rfl rfl rfl [0, 1] (lv' := [(0, .ref (ad 0)), (1, .long a)]) rfl ?_
  refine v_lload_n F dX7_mixedPlaces_0 1 rfl rfl ?_
  refine v_lstore_n (lv' := [(3, .long a), (0, .ref (ad 0)), (1, .long a)]) F dX7_mixedPlaces_1 3 rfl (by decide) rfl ?_
  refine v_iconst (v := nI 0) F dX7_mixedPlaces_2 (by decide) ?_
  refine v_istore (lv' := [(5, .int (nI 0)), (3, .long a), (0, .ref (ad 0)), (1, .long a)]) F dX7_mixedPlaces_3 (by decide) rfl ?_
  have L5 : ∀ (k_ : Nat) (i : Nat) (b : Int64) (P_ : PT) (Tr_ : TT) (Rg_ : RT), rc T n mo 64 - i < k_ → (i ≤ rc T n mo 64) → (b = dRo T n mo a i) → (PCI T n mo ver P_) → (TCI T n mo ver Tr_) → (RCI T n ver Rg_) → V p lau e (RM 15) s m args below meth c 7 G A Q (wC ad G (T, n, mo, ver) (S, h) P_ Tr_ Rg_ Tx Rd) 0 0 5 [(5, .int (nI i)), (3, .long b), (0, .ref (ad 0)), (1, .long a)] [] := by
    intro k_
    induction k_ with
    | zero => exact fun i b P_ Tr_ Rg_ hk_ hi hb hP_ hC_ hR_ => absurd hk_ (Nat.not_lt_zero _)
    | succ k_ ih5 =>
      intro i b P_ Tr_ Rg_ hk_5 hi hb hP_ hC_ hR_
      refine v_iload F dX7_mixedPlaces_5 rfl ?_
      refine v_aload_n F dX7_mixedPlaces_7 0 rfl rfl ?_
      refine v_get (v := .ref (ad 4)) F inlX7 (ci := 7) rfl 3 (by decide) rfl wF_RX7_35 dX7_mixedPlaces_8 0 rfl rfl ?_
      refine v_cVIF F cs_RX7_234 dX7_mixedPlaces_11 4 (ci := 2) rfl rfl (m_X2_rowCount lau G ad T n mo ver (S, h) P_ Tr_ Rg_ Tx Rd (by omega) hP_) (by decide) rfl rfl (Nat.le_of_ble_eq_true rfl) ⟨Nat.zero_le _, Nat.zero_le _⟩ (fun r1 u2 w3 => ?_)
      obtain ⟨rfl, h4⟩ := w3
      refine v_icmp_ge F 52 dX7_mixedPlaces_14 (by decide) (fun c5 => ?_) (fun c5 => ?_)
      · replace c5 := nG (a := i) (b := (rc T n mo 64)) (by omega) (by omega) c5
        have hie : i = rc T n mo 64 := by omega
        subst hie
        refine v_lload_n F dX7_mixedPlaces_52 3 rfl rfl ?_
        refine v_aload_n F dX7_mixedPlaces_53 0 rfl rfl ?_
        refine v_iconst (v := nI 0) F dX7_mixedPlaces_54 (by decide) ?_
        refine v_bipush (v := nI 63) F dX7_mixedPlaces_55 (by decide) ?_
        refine v_cVIF F cs_RX7_267 dX7_mixedPlaces_57 0 (ci := 7) rfl rfl (m_X7_sum lau G ad T n mo ver S h u2 Tr_ Rg_ Tx Rd 0 63 (by omega) (by omega) (by omega) hT h4 hC_ hR_) (by decide) rfl rfl (Nat.le_of_ble_eq_true rfl) ⟨Nat.zero_le _, Nat.zero_le _⟩ (fun r6 u7 w8 => ?_)
        have h9 := w8.2
        refine v_topi ((sm T n mo 0 (63 + 1 - 0))) w8.1 ?_
        refine v_i2l F dX7_mixedPlaces_60 ?_
        refine v_cSLE F cs_RX7_275 dX7_mixedPlaces_61 (m_X7_mixed lau G b (((sm T n mo 0 (63 + 1 - 0))).toInt64) ) (by decide) rfl rfl (Nat.le_of_ble_eq_true rfl) ⟨Nat.zero_le _, Nat.zero_le _⟩ (fun r10 u11 w12 => ?_)
        subst w12
        refine v_lstore_n (lv' := [(3, .long (31 * b + (((sm T n mo 0 (63 + 1 - 0))).toInt64))), (5, .int (nI (rc T n mo 64))), (0, .ref (ad 0)), (1, .long a)]) F dX7_mixedPlaces_64 3 rfl (by decide) rfl ?_
        refine v_iconst (v := nI 0) F dX7_mixedPlaces_65 (by decide) ?_
        refine v_istore (lv' := [(5, .int (nI 0)), (3, .long (31 * b + (((sm T n mo 0 (63 + 1 - 0))).toInt64))), (0, .ref (ad 0)), (1, .long a)]) F dX7_mixedPlaces_66 (by decide) rfl ?_
        have L68 : ∀ (k_ : Nat) (k : Nat) (b : Int64) (P_ : PT) (Tr_ : TT) (Rg_ : RT), 4 - k < k_ → (k ≤ 4) → (b = dPl T n mo (31 * dRo T n mo a (rc T n mo 64) + (sm T n mo 0 64).toInt64) k) → (PCI T n mo ver P_) → (TCI T n mo ver Tr_) → (RCI T n ver Rg_) → V p lau e (RM 15) s m args below meth c 7 G A Q (wC ad G (T, n, mo, ver) (S, h) P_ Tr_ Rg_ Tx Rd) 0 0 68 [(5, .int (nI (21 * k))), (3, .long b), (0, .ref (ad 0)), (1, .long a)] [] := by
          intro k_
          induction k_ with
          | zero => exact fun k b P_ Tr_ Rg_ hk_ hk hb hP_ hC_ hR_ => absurd hk_ (Nat.not_lt_zero _)
          | succ k_ ih68 =>
            intro k b P_ Tr_ Rg_ hk_68 hk hb hP_ hC_ hR_
            refine v_iload F dX7_mixedPlaces_68 rfl ?_
            refine v_bipush (v := nI 64) F dX7_mixedPlaces_70 (by decide) ?_
            refine v_icmp_ge F 120 dX7_mixedPlaces_72 (by decide) (fun c13 => ?_) (fun c13 => ?_)
            · replace c13 := nG (a := (21 * k)) (b := 64) (by omega) (by decide) c13
              refine v_lload_n F dX7_mixedPlaces_120 3 rfl rfl ?_
              exact v_lret F hr hlk hQ dX7_mixedPlaces_121 ((P_, Tr_, Rg_)) rfl (by refine ⟨?_, hP_, hC_, hR_⟩; rw [hb, show k = 4 by omega]; rfl)
            · replace c13 := nGn (a := (21 * k)) (b := 64) (by omega) (by decide) c13
              refine v_lload_n F dX7_mixedPlaces_75 3 rfl rfl ?_
              refine v_aload_n F dX7_mixedPlaces_76 0 rfl rfl ?_
              refine v_iload F dX7_mixedPlaces_77 rfl ?_
              refine v_bipush (v := nI 50) F dX7_mixedPlaces_79 (by decide) ?_
              refine v_cVIF F cs_RX7_321 dX7_mixedPlaces_81 0 (ci := 7) rfl rfl (m_X7_lowest lau G ad T n mo ver S h P_ Tr_ Rg_ Tx Rd (21 * k) 50 (by omega) (by omega) (by omega) hT hP_ hC_ hR_) (by decide) rfl rfl (Nat.le_of_ble_eq_true rfl) ⟨Nat.zero_le _, Nat.zero_le _⟩ (fun r14 u15 w16 => ?_)
              have h17 := w16.2
              refine v_topi ((oI (lb T (21 * k) 50 (-1) n))) w16.1 ?_
              refine v_i2l F dX7_mixedPlaces_84 ?_
              refine v_cSLE F cs_RX7_275 dX7_mixedPlaces_85 (m_X7_mixed lau G b (((oI (lb T (21 * k) 50 (-1) n))).toInt64) ) (by decide) rfl rfl (Nat.le_of_ble_eq_true rfl) ⟨Nat.zero_le _, Nat.zero_le _⟩ (fun r18 u19 w20 => ?_)
              subst w20
              refine v_lstore_n (lv' := [(3, .long (31 * b + (((oI (lb T (21 * k) 50 (-1) n))).toInt64))), (5, .int (nI (21 * k))), (0, .ref (ad 0)), (1, .long a)]) F dX7_mixedPlaces_88 3 rfl (by decide) rfl ?_
              refine v_lload_n F dX7_mixedPlaces_89 3 rfl rfl ?_
              refine v_aload_n F dX7_mixedPlaces_90 0 rfl rfl ?_
              refine v_iload F dX7_mixedPlaces_91 rfl ?_
              refine v_iconst (v := nI 1) F dX7_mixedPlaces_93 (by decide) ?_
              refine v_cVIF F cs_RX7_324 dX7_mixedPlaces_94 0 (ci := 7) rfl rfl (m_X7_ranked lau G ad T n mo ver S h u15.1 u15.2.1 u15.2.2 Tx Rd (21 * k) 1 (by omega) (by omega) (by omega) hT h17.1 h17.2.1 h17.2.2) (by decide) rfl rfl (Nat.le_of_ble_eq_true rfl) ⟨Nat.zero_le _, Nat.zero_le _⟩ (fun r21 u22 w23 => ?_)
              have h24 := w23.2
              refine v_topi ((rkV T n mo (21 * k) 1)) w23.1 ?_
              refine v_i2l F dX7_mixedPlaces_97 ?_
              refine v_cSLE F cs_RX7_275 dX7_mixedPlaces_98 (m_X7_mixed lau G (31 * b + (((oI (lb T (21 * k) 50 (-1) n))).toInt64)) (((rkV T n mo (21 * k) 1)).toInt64) ) (by decide) rfl rfl (Nat.le_of_ble_eq_true rfl) ⟨Nat.zero_le _, Nat.zero_le _⟩ (fun r25 u26 w27 => ?_)
              subst w27
              refine v_lstore_n (lv' := [(3, .long (31 * (31 * b + (((oI (lb T (21 * k) 50 (-1) n))).toInt64)) + (((rkV T n mo (21 * k) 1)).toInt64))), (5, .int (nI (21 * k))), (0, .ref (ad 0)), (1, .long a)]) F dX7_mixedPlaces_101 3 rfl (by decide) rfl ?_
              refine v_lload_n F dX7_mixedPlaces_102 3 rfl rfl ?_
              refine v_aload_n F dX7_mixedPlaces_103 0 rfl rfl ?_
              refine v_iload F dX7_mixedPlaces_104 rfl ?_
              refine v_cVIF F cs_RX7_327 dX7_mixedPlaces_106 0 (ci := 7) rfl rfl (m_X7_changesAt lau G ad T n mo ver S h u22.1 u22.2.1 u22.2.2 Tx Rd (21 * k) (by omega) (by omega) (by omega) hT h24.1 h24.2.1 h24.2.2) (by decide) rfl rfl (Nat.le_of_ble_eq_true rfl) ⟨Nat.zero_le _, Nat.zero_le _⟩ (fun r28 u29 w30 => ?_)
              have h31 := w30.2
              refine v_topi ((chA T n mo (21 * k))) w30.1 ?_
              refine v_i2l F dX7_mixedPlaces_109 ?_
              refine v_cSLE F cs_RX7_275 dX7_mixedPlaces_110 (m_X7_mixed lau G (31 * (31 * b + (((oI (lb T (21 * k) 50 (-1) n))).toInt64)) + (((rkV T n mo (21 * k) 1)).toInt64)) (((chA T n mo (21 * k))).toInt64) ) (by decide) rfl rfl (Nat.le_of_ble_eq_true rfl) ⟨Nat.zero_le _, Nat.zero_le _⟩ (fun r32 u33 w34 => ?_)
              subst w34
              refine v_lstore_n (lv' := [(3, .long (31 * (31 * (31 * b + (((oI (lb T (21 * k) 50 (-1) n))).toInt64)) + (((rkV T n mo (21 * k) 1)).toInt64)) + (((chA T n mo (21 * k))).toInt64))), (5, .int (nI (21 * k))), (0, .ref (ad 0)), (1, .long a)]) F dX7_mixedPlaces_113 3 rfl (by decide) rfl ?_
              refine v_iinc (lv' := [(5, .int (nI ((21 * k) + 21))), (3, .long (31 * (31 * (31 * b + (((oI (lb T (21 * k) 50 (-1) n))).toInt64)) + (((rkV T n mo (21 * k) 1)).toInt64)) + (((chA T n mo (21 * k))).toInt64))), (0, .ref (ad 0)), (1, .long a)]) F (nI ((21 * k) + 21)) dX7_mixedPlaces_114 rfl (nI_add (21 * k) 21) (by decide) rfl ?_
              refine v_goto F 68 dX7_mixedPlaces_117 (by decide) ?_
              refine v_st (w' := wC ad G (T, n, mo, ver) (S, h) u29.1 u29.2.1 u29.2.2 Tx Rd) (pc' := 68) (st' := []) rfl rfl rfl [0, 1, 2, 3] (lv' := [(5, .int (nI ((21 * k) + 21))), (3, .long (31 * (31 * (31 * b + (((oI (lb T (21 * k) 50 (-1) n))).toInt64)) + (((rkV T n mo (21 * k) 1)).toInt64)) + (((chA T n mo (21 * k))).toInt64))), (0, .ref (ad 0)), (1, .long a)]) rfl ?_
              exact ih68 (k + 1) (31 * (31 * (31 * b + (((oI (lb T (21 * k) 50 (-1) n))).toInt64)) + (((rkV T n mo (21 * k) 1)).toInt64)) + (((chA T n mo (21 * k))).toInt64)) u29.1 u29.2.1 u29.2.2 (by omega) (by omega) (by rw [hb]; rfl) (h31.1) (h31.2.1) (h31.2.2)
        refine v_st (w' := wC ad G (T, n, mo, ver) (S, h) u7.1 u7.2.1 u7.2.2 Tx Rd) (pc' := 68) (st' := []) rfl rfl rfl [0, 1, 2, 3] (lv' := [(5, .int (nI 0)), (3, .long (31 * b + (((sm T n mo 0 (63 + 1 - 0))).toInt64))), (0, .ref (ad 0)), (1, .long a)]) rfl ?_
        exact L68 _ 0 (31 * b + (((sm T n mo 0 (63 + 1 - 0))).toInt64)) u7.1 u7.2.1 u7.2.2 (Nat.lt_succ_self _) (by omega) (by rw [hb]; rfl) (h9.1) (h9.2.1) (h9.2.2)
      · replace c5 := nGn (a := i) (b := (rc T n mo 64)) (by omega) (by omega) c5
        refine v_iconst (v := nI 0) F dX7_mixedPlaces_17 (by decide) ?_
        refine v_istore (lv' := [(6, .int (nI 0)), (5, .int (nI i)), (3, .long b), (0, .ref (ad 0)), (1, .long a)]) F dX7_mixedPlaces_18 (by decide) rfl ?_
        have L20 : ∀ (k_ : Nat) (j : Nat) (b : Int64) (P_ : PT) (Tr_ : TT) (Rg_ : RT), 3 - j < k_ → (j ≤ 3) → (b = mxN (rowV T n mo i) (dRo T n mo a i) j) → (PCI T n mo ver P_) → (TCI T n mo ver Tr_) → (RCI T n ver Rg_) → V p lau e (RM 15) s m args below meth c 7 G A Q (wC ad G (T, n, mo, ver) (S, h) P_ Tr_ Rg_ Tx Rd) 0 0 20 [(6, .int (nI j)), (5, .int (nI i)), (3, .long b), (0, .ref (ad 0)), (1, .long a)] [] := by
          intro k_
          induction k_ with
          | zero => exact fun j b P_ Tr_ Rg_ hk_ hj hb hP_ hC_ hR_ => absurd hk_ (Nat.not_lt_zero _)
          | succ k_ ih20 =>
            intro j b P_ Tr_ Rg_ hk_20 hj hb hP_ hC_ hR_
            refine v_iload F dX7_mixedPlaces_20 rfl ?_
            refine v_iconst (v := nI 2) F dX7_mixedPlaces_22 (by decide) ?_
            refine v_icmp_gt F 46 dX7_mixedPlaces_23 (by decide) (fun c35 => ?_) (fun c35 => ?_)
            · replace c35 := nT (a := j) (b := 2) (by omega) (by decide) c35
              have hj9 : j = 3 := by omega
              subst hj9
              refine v_iinc (lv' := [(5, .int (nI (i + 1))), (6, .int (nI 3)), (3, .long b), (0, .ref (ad 0)), (1, .long a)]) F (nI (i + 1)) dX7_mixedPlaces_46 rfl (nI_add i 1) (by decide) rfl ?_
              refine v_goto F 5 dX7_mixedPlaces_49 (by decide) ?_
              refine v_st (w' := wC ad G (T, n, mo, ver) (S, h) P_ Tr_ Rg_ Tx Rd) (pc' := 5) (st' := []) rfl rfl rfl [0, 2, 3, 4] (lv' := [(5, .int (nI (i + 1))), (3, .long b), (0, .ref (ad 0)), (1, .long a)]) rfl ?_
              exact ih5 (i + 1) b P_ Tr_ Rg_ (by omega) (by omega) (by rw [hb]; rfl) (hP_) (hC_) (hR_)
            · replace c35 := nTn (a := j) (b := 2) (by omega) (by decide) c35
              refine v_lload_n F dX7_mixedPlaces_26 3 rfl rfl ?_
              refine v_aload_n F dX7_mixedPlaces_27 0 rfl rfl ?_
              refine v_iload F dX7_mixedPlaces_28 rfl ?_
              refine v_iload F dX7_mixedPlaces_30 rfl ?_
              refine v_cVIF F cs_RX7_318 dX7_mixedPlaces_32 0 (ci := 7) rfl rfl (m_X7_row lau G ad T n mo ver S h P_ Tr_ Rg_ Tx Rd i j (by omega) (by omega) (by omega) hT hP_ hC_ hR_) (by decide) rfl rfl (Nat.le_of_ble_eq_true rfl) ⟨Nat.zero_le _, Nat.zero_le _⟩ (fun r36 u37 w38 => ?_)
              have h39 := w38.2
              refine v_topi ((rowV T n mo i j)) w38.1 ?_
              refine v_i2l F dX7_mixedPlaces_35 ?_
              refine v_cSLE F cs_RX7_275 dX7_mixedPlaces_36 (m_X7_mixed lau G b (((rowV T n mo i j)).toInt64) ) (by decide) rfl rfl (Nat.le_of_ble_eq_true rfl) ⟨Nat.zero_le _, Nat.zero_le _⟩ (fun r40 u41 w42 => ?_)
              subst w42
              refine v_lstore_n (lv' := [(3, .long (31 * b + (((rowV T n mo i j)).toInt64))), (6, .int (nI j)), (5, .int (nI i)), (0, .ref (ad 0)), (1, .long a)]) F dX7_mixedPlaces_39 3 rfl (by decide) rfl ?_
              refine v_iinc (lv' := [(6, .int (nI (j + 1))), (3, .long (31 * b + (((rowV T n mo i j)).toInt64))), (5, .int (nI i)), (0, .ref (ad 0)), (1, .long a)]) F (nI (j + 1)) dX7_mixedPlaces_40 rfl (nI_add j 1) (by decide) rfl ?_
              refine v_goto F 20 dX7_mixedPlaces_43 (by decide) ?_
              refine v_st (w' := wC ad G (T, n, mo, ver) (S, h) u37.1 u37.2.1 u37.2.2 Tx Rd) (pc' := 20) (st' := []) rfl rfl rfl [0, 2, 1, 3, 4] (lv' := [(6, .int (nI (j + 1))), (5, .int (nI i)), (3, .long (31 * b + (((rowV T n mo i j)).toInt64))), (0, .ref (ad 0)), (1, .long a)]) rfl ?_
              exact ih20 (j + 1) (31 * b + (((rowV T n mo i j)).toInt64)) u37.1 u37.2.1 u37.2.2 (by omega) (by omega) (by rw [hb]; rfl) (h39.1) (h39.2.1) (h39.2.2)
        refine v_st (w' := wC ad G (T, n, mo, ver) (S, h) u2 Tr_ Rg_ Tx Rd) (pc' := 20) (st' := []) rfl rfl rfl [0, 1, 2, 3, 4] (lv' := [(6, .int (nI 0)), (5, .int (nI i)), (3, .long b), (0, .ref (ad 0)), (1, .long a)]) rfl ?_
        exact L20 _ 0 b u2 Tr_ Rg_ (Nat.lt_succ_self _) (by omega) (hb) (h4) (hC_) (hR_)
  refine v_st (w' := wC ad G (T, n, mo, ver) (S, h) P Tr Rg Tx Rd) (pc' := 5) (st' := []) rfl rfl rfl [0, 1, 2, 3] (lv' := [(5, .int (nI 0)), (3, .long a), (0, .ref (ad 0)), (1, .long a)]) rfl ?_
  exact L5 _ 0 a P Tr Rg (Nat.lt_succ_self _) (by omega) (rfl) (hP) (hC) (hR)
theorem cs_RX7_272 : CSV RX7 272 RX7 yX7_count cX7_count 2 (some .int) 1 := ⟨wC_yX7_count, wM_RX7_272, wIm_yX7_count, wSe_yX7_count, wI_RX7, by decide +kernel, by decide⟩
theorem cs_RX7_279 : CSV RX7 279 RX7 yX7_mixedLines cX7_mixedLines 7 (some .long) 1 := ⟨wC_yX7_mixedLines, wM_RX7_279, wIm_yX7_mixedLines, wSe_yX7_mixedLines, wI_RX7, by decide +kernel, by decide⟩
theorem cs_RX7_283 : CSV RX7 283 RX7 yX7_mixedTree cX7_mixedTree 7 (some .long) 1 := ⟨wC_yX7_mixedTree, wM_RX7_283, wIm_yX7_mixedTree, wSe_yX7_mixedTree, wI_RX7, by decide +kernel, by decide⟩
theorem cs_RX7_286 : CSV RX7 286 RX7 yX7_mixedPlaces cX7_mixedPlaces 7 (some .long) 1 := ⟨wC_yX7_mixedPlaces, wM_RX7_286, wIm_yX7_mixedPlaces, wSe_yX7_mixedPlaces, wI_RX7, by decide +kernel, by decide⟩
theorem cs_RX7_289 : CSV RX7 289 RX7 yX7_ifAdded cX7_ifAdded 6 (some .int) 2 := ⟨wC_yX7_ifAdded, wM_RX7_289, wIm_yX7_ifAdded, wSe_yX7_ifAdded, wI_RX7, by decide +kernel, by decide⟩
theorem cs_RX7_292 : CSV RX7 292 RX7 yX7_highest cX7_highest 5 (some .int) 1 := ⟨wC_yX7_highest, wM_RX7_292, wIm_yX7_highest, wSe_yX7_highest, wI_RX7, by decide +kernel, by decide⟩
theorem cs_RX7_295 : CSV RX7 295 RX7 yX7_mean cX7_mean 2 (some .double) 0 := ⟨wC_yX7_mean, wM_RX7_295, wIm_yX7_mean, wSe_yX7_mean, wI_RX7, by decide +kernel, by decide⟩
theorem cs_RX7_299 : CSS RX7 299 yX7_bitsOf cX7_bitsOf 10 (some .long) 1 := ⟨wC_yX7_bitsOf, wM_RX7_299, wSt_yX7_bitsOf, wI_RX7, by decide +kernel, by decide⟩
theorem cs_RX7_303 : CSV RX7 303 RX5 yX5_codeAt cX5_codeAt 2 (some .int) 1 := ⟨wC_yX5_codeAt, wM_RX7_303, wIm_yX5_codeAt, wSe_yX5_codeAt, wI_RX5, by decide +kernel, by decide⟩
set_option maxHeartbeats 600000 in
set_option maxRecDepth 100000 in
theorem m_X7_digest (lau : Launch) (G : GT) (ad : Nat → Nat) (T : Nat → Int32) (n mo ver : Nat) (S : Nat → Int32) (h : Nat) (P : PT) (Tr : TT) (Rg : RT) (co : Nat → Int32) (len : Nat) (Rd : DT) (hn : n ≤ 20) (hT : TOK T n) (hP : PCI T n mo ver P) (hC : TCI T n mo ver Tr) (hR : RCI T n ver Rg) (hmo : mo < 100) (hX : TXOK co len) : ML lau G 16 yX7_digest cX7_digest 4 (some .long) [.ref (ad 0)] (wC ad G (T, n, mo, ver) (S, h) P Tr Rg (co, len) Rd) (fun u : PT × TT × RT => wC ad G (T, n, mo, ver) (S, h) u.1 u.2.1 u.2.2 (co, len) Rd) (fun r u => r = dgV T n mo h co len ∧ PCI T n mo ver u.1 ∧ TCI T n mo ver u.2.1 ∧ RCI T n ver u.2.2) := by
  have hlen := hX.1
  refine ml_of (by decide +kernel) (Nat.le_of_ble_eq_true rfl) ?_
  intro p e s m args below meth c A Q F hr hlk hQ
  refine v_st (w' := wC ad G (T, n, mo, ver) (S, h) P Tr Rg (co, len) Rd) (pc' := 0) (st' := []) rfl rfl rfl [0] (lv' := [(0, .ref (ad 0))]) rfl ?_
  refine v_ldc2 F wK_RX7_270 dX7_digest_0 ?_
  refine v_lstore_n (lv' := [(1, .long 2591), (0, .ref (ad 0))]) F dX7_digest_3 1 rfl (by decide) rfl ?_
  refine v_iconst (v := nI 0) F dX7_digest_4 (by decide) ?_
  refine v_istore_n (lv' := [(3, .int (nI 0)), (1, .long 2591), (0, .ref (ad 0))]) F dX7_digest_5 3 rfl (by decide) rfl ?_
  have L6 : ∀ (k_ : Nat) (j : Nat) (b : Int64) (P_ : PT) (Tr_ : TT) (Rg_ : RT), 9 - j < k_ → (j ≤ 9) → (b = mxN (cntV T n mo h) 2591 j) → (PCI T n mo ver P_) → (TCI T n mo ver Tr_) → (RCI T n ver Rg_) → V p lau e (RM 16) s m args below meth c 4 G A Q (wC ad G (T, n, mo, ver) (S, h) P_ Tr_ Rg_ (co, len) Rd) 0 0 6 [(3, .int (nI j)), (1, .long b), (0, .ref (ad 0))] [] := by
    intro k_
    induction k_ with
    | zero => exact fun j b P_ Tr_ Rg_ hk_ hj hb hP_ hC_ hR_ => absurd hk_ (Nat.not_lt_zero _)
    | succ k_ ih6 =>
      intro j b P_ Tr_ Rg_ hk_6 hj hb hP_ hC_ hR_
      refine v_iload_n F dX7_digest_6 3 rfl rfl ?_
      refine v_bipush (v := nI 8) F dX7_digest_7 (by decide) ?_
      refine v_icmp_gt F 29 dX7_digest_9 (by decide) (fun c1 => ?_) (fun c1 => ?_)
      · replace c1 := nT (a := j) (b := 8) (by omega) (by decide) c1
        have hj9 : j = 9 := by omega
        subst hj9
        refine v_aload_n F dX7_digest_29 0 rfl rfl ?_
        refine v_lload_n F dX7_digest_30 1 rfl rfl ?_
        refine v_cVLF F cs_RX7_279 dX7_digest_31 0 (ci := 7) rfl rfl (m_X7_mixedLines lau G ad T n mo ver S h P_ Tr_ Rg_ (co, len) Rd b (by omega) hT hP_ hC_ hR_) (by decide) rfl rfl (Nat.le_of_ble_eq_true rfl) ⟨Nat.zero_le _, Nat.zero_le _⟩ (fun r2 u3 w4 => ?_)
        have h5 := w4.2
        refine v_topl (dLi T n mo b n) w4.1 ?_
        refine v_lstore_n (lv' := [(1, .long (dLi T n mo b n)), (3, .int (nI 9)), (0, .ref (ad 0))]) F dX7_digest_34 1 rfl (by decide) rfl ?_
        refine v_aload_n F dX7_digest_35 0 rfl rfl ?_
        refine v_lload_n F dX7_digest_36 1 rfl rfl ?_
        refine v_cVLF F cs_RX7_283 dX7_digest_37 0 (ci := 7) rfl rfl (m_X7_mixedTree lau G ad T n mo ver S h u3.1 u3.2.1 u3.2.2 (co, len) Rd (dLi T n mo b n) (by omega) hT h5.1 h5.2.1 h5.2.2) (by decide) rfl rfl (Nat.le_of_ble_eq_true rfl) ⟨Nat.zero_le _, Nat.zero_le _⟩ (fun r6 u7 w8 => ?_)
        have h9 := w8.2
        refine v_topl (dTr T n mo (dLi T n mo b n) 127) w8.1 ?_
        refine v_lstore_n (lv' := [(1, .long (dTr T n mo (dLi T n mo b n) 127)), (3, .int (nI 9)), (0, .ref (ad 0))]) F dX7_digest_40 1 rfl (by decide) rfl ?_
        refine v_aload_n F dX7_digest_41 0 rfl rfl ?_
        refine v_lload_n F dX7_digest_42 1 rfl rfl ?_
        refine v_cVLF F cs_RX7_286 dX7_digest_43 0 (ci := 7) rfl rfl (m_X7_mixedPlaces lau G ad T n mo ver S h u7.1 u7.2.1 u7.2.2 (co, len) Rd (dTr T n mo (dLi T n mo b n) 127) (by omega) hT h9.1 h9.2.1 h9.2.2 (by omega)) (by decide) rfl rfl (Nat.le_of_ble_eq_true rfl) ⟨Nat.zero_le _, Nat.zero_le _⟩ (fun r10 u11 w12 => ?_)
        have h13 := w12.2
        refine v_topl (dPs T n mo (dTr T n mo (dLi T n mo b n) 127)) w12.1 ?_
        refine v_lstore_n (lv' := [(1, .long (dPs T n mo (dTr T n mo (dLi T n mo b n) 127))), (3, .int (nI 9)), (0, .ref (ad 0))]) F dX7_digest_46 1 rfl (by decide) rfl ?_
        refine v_lload_n F dX7_digest_47 1 rfl rfl ?_
        refine v_aload_n F dX7_digest_48 0 rfl rfl ?_
        refine v_iconst (v := nI 0) F dX7_digest_49 (by decide) ?_
        refine v_iconst (v := nI 0) F dX7_digest_50 (by decide) ?_
        refine v_cVIF F cs_RX7_289 dX7_digest_51 0 (ci := 7) rfl rfl (m_X7_ifAdded lau G ad T n mo ver S h u11.1 u11.2.1 u11.2.2 (co, len) Rd (nI 0) (nI 0) (by decide) (by decide) (by omega) hT h13.1 h13.2.1 h13.2.2) (by decide) rfl rfl (Nat.le_of_ble_eq_true rfl) ⟨Nat.zero_le _, Nat.zero_le _⟩ (fun r14 u15 w16 => ?_)
        have h17 := w16.2
        refine v_topi ((nI (ifa T n mo (nI 0) (nI 0) 64))) w16.1 ?_
        refine v_i2l F dX7_digest_54 ?_
        refine v_cSLE F cs_RX7_275 dX7_digest_55 (m_X7_mixed lau G (dPs T n mo (dTr T n mo (dLi T n mo b n) 127)) (((nI (ifa T n mo (nI 0) (nI 0) 64))).toInt64) ) (by decide) rfl rfl (Nat.le_of_ble_eq_true rfl) ⟨Nat.zero_le _, Nat.zero_le _⟩ (fun r18 u19 w20 => ?_)
        subst w20
        refine v_lstore_n (lv' := [(1, .long (31 * (dPs T n mo (dTr T n mo (dLi T n mo b n) 127)) + (((nI (ifa T n mo (nI 0) (nI 0) 64))).toInt64))), (3, .int (nI 9)), (0, .ref (ad 0))]) F dX7_digest_58 1 rfl (by decide) rfl ?_
        refine v_lload_n F dX7_digest_59 1 rfl rfl ?_
        refine v_aload_n F dX7_digest_60 0 rfl rfl ?_
        refine v_iconst (v := nI 1) F dX7_digest_61 (by decide) ?_
        refine v_cVIF F cs_RX7_292 dX7_digest_62 0 (ci := 7) rfl rfl (m_X7_highest lau G ad T n mo ver S h u15.1 u15.2.1 u15.2.2 (co, len) Rd (nI 1) (by decide) (by omega) hT h17.1 h17.2.1 h17.2.2) (by decide) rfl rfl (Nat.le_of_ble_eq_true rfl) ⟨Nat.zero_le _, Nat.zero_le _⟩ (fun r21 u22 w23 => ?_)
        have h24 := w23.2
        refine v_topi ((hiC T n mo (nI 1))) w23.1 ?_
        refine v_i2l F dX7_digest_65 ?_
        refine v_cSLE F cs_RX7_275 dX7_digest_66 (m_X7_mixed lau G (31 * (dPs T n mo (dTr T n mo (dLi T n mo b n) 127)) + (((nI (ifa T n mo (nI 0) (nI 0) 64))).toInt64)) (((hiC T n mo (nI 1))).toInt64) ) (by decide) rfl rfl (Nat.le_of_ble_eq_true rfl) ⟨Nat.zero_le _, Nat.zero_le _⟩ (fun r25 u26 w27 => ?_)
        subst w27
        refine v_lstore_n (lv' := [(1, .long (31 * (31 * (dPs T n mo (dTr T n mo (dLi T n mo b n) 127)) + (((nI (ifa T n mo (nI 0) (nI 0) 64))).toInt64)) + (((hiC T n mo (nI 1))).toInt64))), (3, .int (nI 9)), (0, .ref (ad 0))]) F dX7_digest_69 1 rfl (by decide) rfl ?_
        refine v_lload_n F dX7_digest_70 1 rfl rfl ?_
        refine v_aload_n F dX7_digest_71 0 rfl rfl ?_
        refine v_cVDF F cs_RX7_295 dX7_digest_72 0 (ci := 7) rfl rfl (m_X7_mean lau G ad T n mo ver S h u22.1 u22.2.1 u22.2.2 (co, len) Rd (by omega) hT h24.1 h24.2.1 h24.2.2) (by decide) rfl rfl (Nat.le_of_ble_eq_true rfl) ⟨Nat.zero_le _, Nat.zero_le _⟩ (fun r28 u29 w30 => ?_)
        have h31 := w30.2
        refine v_topd (meanV T n mo) w30.1 ?_
        refine v_cSLE F cs_RX7_299 dX7_digest_75 (m_X7_bitsOf lau G (meanV T n mo) (mean_nz T n mo)) (by decide) rfl rfl (Nat.le_of_ble_eq_true rfl) ⟨Nat.zero_le _, Nat.zero_le _⟩ (fun r32 u33 w34 => ?_)
        subst w34
        refine v_cSLE F cs_RX7_275 dX7_digest_78 (m_X7_mixed lau G (31 * (31 * (dPs T n mo (dTr T n mo (dLi T n mo b n) 127)) + (((nI (ifa T n mo (nI 0) (nI 0) 64))).toInt64)) + (((hiC T n mo (nI 1))).toInt64)) ((meanV T n mo).toInt64) ) (by decide) rfl rfl (Nat.le_of_ble_eq_true rfl) ⟨Nat.zero_le _, Nat.zero_le _⟩ (fun r35 u36 w37 => ?_)
        subst w37
        refine v_lstore_n (lv' := [(1, .long (31 * (31 * (31 * (dPs T n mo (dTr T n mo (dLi T n mo b n) 127)) + (((nI (ifa T n mo (nI 0) (nI 0) 64))).toInt64)) + (((hiC T n mo (nI 1))).toInt64)) + ((meanV T n mo).toInt64))), (3, .int (nI 9)), (0, .ref (ad 0))]) F dX7_digest_81 1 rfl (by decide) rfl ?_
        refine v_lload_n F dX7_digest_82 1 rfl rfl ?_
        refine v_aload_n F dX7_digest_83 0 rfl rfl ?_
        refine v_get (v := .ref (ad 3)) F inlX7 (ci := 7) rfl 2 (by decide) rfl wF_RX7_26 dX7_digest_84 0 rfl rfl ?_
        refine v_cVIF F cs_RX7_149 dX7_digest_87 3 (ci := 5) rfl rfl (m_X5_length lau G ad (T, n, mo, ver) (S, h) u29.1 u29.2.1 u29.2.2 co len Rd ) (by decide) rfl rfl (Nat.le_of_ble_eq_true rfl) ⟨Nat.zero_le _, Nat.zero_le _⟩ (fun r38 u39 w40 => ?_)
        subst w40
        refine v_i2l F dX7_digest_90 ?_
        refine v_cSLE F cs_RX7_275 dX7_digest_91 (m_X7_mixed lau G (31 * (31 * (31 * (dPs T n mo (dTr T n mo (dLi T n mo b n) 127)) + (((nI (ifa T n mo (nI 0) (nI 0) 64))).toInt64)) + (((hiC T n mo (nI 1))).toInt64)) + ((meanV T n mo).toInt64)) ((nI len).toInt64) ) (by decide) rfl rfl (Nat.le_of_ble_eq_true rfl) ⟨Nat.zero_le _, Nat.zero_le _⟩ (fun r41 u42 w43 => ?_)
        subst w43
        refine v_lstore_n (lv' := [(1, .long (31 * (31 * (31 * (31 * (dPs T n mo (dTr T n mo (dLi T n mo b n) 127)) + (((nI (ifa T n mo (nI 0) (nI 0) 64))).toInt64)) + (((hiC T n mo (nI 1))).toInt64)) + ((meanV T n mo).toInt64)) + ((nI len).toInt64))), (3, .int (nI 9)), (0, .ref (ad 0))]) F dX7_digest_94 1 rfl (by decide) rfl ?_
        refine v_iconst (v := nI 0) F dX7_digest_95 (by decide) ?_
        refine v_istore_n (lv' := [(3, .int (nI 0)), (1, .long (31 * (31 * (31 * (31 * (dPs T n mo (dTr T n mo (dLi T n mo b n) 127)) + (((nI (ifa T n mo (nI 0) (nI 0) 64))).toInt64)) + (((hiC T n mo (nI 1))).toInt64)) + ((meanV T n mo).toInt64)) + ((nI len).toInt64))), (0, .ref (ad 0))]) F dX7_digest_96 3 rfl (by decide) rfl ?_
        have L97 : ∀ (k_ : Nat) (i : Nat) (b : Int64) (P_ : PT) (Tr_ : TT) (Rg_ : RT), len - i < k_ → (i ≤ len) → (b = mxN co (31 * (31 * (31 * (31 * dPs T n mo (dTr T n mo (dLi T n mo (mxN (cntV T n mo h) 2591 9) n) 127) + (nI (ifa T n mo (nI 0) (nI 0) 64)).toInt64) + (hiC T n mo (nI 1)).toInt64) + (meanV T n mo).toInt64) + (nI len).toInt64) i) → (PCI T n mo ver P_) → (TCI T n mo ver Tr_) → (RCI T n ver Rg_) → V p lau e (RM 16) s m args below meth c 4 G A Q (wC ad G (T, n, mo, ver) (S, h) P_ Tr_ Rg_ (co, len) Rd) 0 0 97 [(3, .int (nI i)), (1, .long b), (0, .ref (ad 0))] [] := by
          intro k_
          induction k_ with
          | zero => exact fun i b P_ Tr_ Rg_ hk_ hi hb hP_ hC_ hR_ => absurd hk_ (Nat.not_lt_zero _)
          | succ k_ ih97 =>
            intro i b P_ Tr_ Rg_ hk_97 hi hb hP_ hC_ hR_
            refine v_iload_n F dX7_digest_97 3 rfl rfl ?_
            refine v_aload_n F dX7_digest_98 0 rfl rfl ?_
            refine v_get (v := .ref (ad 3)) F inlX7 (ci := 7) rfl 2 (by decide) rfl wF_RX7_26 dX7_digest_99 0 rfl rfl ?_
            refine v_cVIF F cs_RX7_149 dX7_digest_102 3 (ci := 5) rfl rfl (m_X5_length lau G ad (T, n, mo, ver) (S, h) P_ Tr_ Rg_ co len Rd ) (by decide) rfl rfl (Nat.le_of_ble_eq_true rfl) ⟨Nat.zero_le _, Nat.zero_le _⟩ (fun r44 u45 w46 => ?_)
            subst w46
            refine v_icmp_ge F 128 dX7_digest_105 (by decide) (fun c47 => ?_) (fun c47 => ?_)
            · replace c47 := nG (a := i) (b := len) (by omega) (by omega) c47
              refine v_lload_n F dX7_digest_128 1 rfl rfl ?_
              exact v_lret F hr hlk hQ dX7_digest_129 ((P_, Tr_, Rg_)) rfl (by refine ⟨?_, hP_, hC_, hR_⟩; rw [hb, show i = len by omega]; rfl)
            · replace c47 := nGn (a := i) (b := len) (by omega) (by omega) c47
              refine v_lload_n F dX7_digest_108 1 rfl rfl ?_
              refine v_aload_n F dX7_digest_109 0 rfl rfl ?_
              refine v_get (v := .ref (ad 3)) F inlX7 (ci := 7) rfl 2 (by decide) rfl wF_RX7_26 dX7_digest_110 0 rfl rfl ?_
              refine v_iload_n F dX7_digest_113 3 rfl rfl ?_
              refine v_cVIF F cs_RX7_303 dX7_digest_114 3 (ci := 5) rfl rfl (m_X5_codeAt lau G ad (T, n, mo, ver) (S, h) P_ Tr_ Rg_ co len Rd i (by omega) hX) (by decide) rfl rfl (Nat.le_of_ble_eq_true rfl) ⟨Nat.zero_le _, Nat.zero_le _⟩ (fun r48 u49 w50 => ?_)
              subst w50
              refine v_i2l F dX7_digest_117 ?_
              refine v_cSLE F cs_RX7_275 dX7_digest_118 (m_X7_mixed lau G b (((co i)).toInt64) ) (by decide) rfl rfl (Nat.le_of_ble_eq_true rfl) ⟨Nat.zero_le _, Nat.zero_le _⟩ (fun r51 u52 w53 => ?_)
              subst w53
              refine v_lstore_n (lv' := [(1, .long (31 * b + (((co i)).toInt64))), (3, .int (nI i)), (0, .ref (ad 0))]) F dX7_digest_121 1 rfl (by decide) rfl ?_
              refine v_iinc (lv' := [(3, .int (nI (i + 1))), (1, .long (31 * b + (((co i)).toInt64))), (0, .ref (ad 0))]) F (nI (i + 1)) dX7_digest_122 rfl (nI_add i 1) (by decide) rfl ?_
              refine v_goto F 97 dX7_digest_125 (by decide) ?_
              refine v_st (w' := wC ad G (T, n, mo, ver) (S, h) P_ Tr_ Rg_ (co, len) Rd) (pc' := 97) (st' := []) rfl rfl rfl [0, 1, 2] (lv' := [(3, .int (nI (i + 1))), (1, .long (31 * b + (((co i)).toInt64))), (0, .ref (ad 0))]) rfl ?_
              exact ih97 (i + 1) (31 * b + (((co i)).toInt64)) P_ Tr_ Rg_ (by omega) (by omega) (by rw [hb]; rfl) (hP_) (hC_) (hR_)
        refine v_st (w' := wC ad G (T, n, mo, ver) (S, h) u29.1 u29.2.1 u29.2.2 (co, len) Rd) (pc' := 97) (st' := []) rfl rfl rfl [0, 1, 2] (lv' := [(3, .int (nI 0)), (1, .long (31 * (31 * (31 * (31 * (dPs T n mo (dTr T n mo (dLi T n mo b n) 127)) + (((nI (ifa T n mo (nI 0) (nI 0) 64))).toInt64)) + (((hiC T n mo (nI 1))).toInt64)) + ((meanV T n mo).toInt64)) + ((nI len).toInt64))), (0, .ref (ad 0))]) rfl ?_
        exact L97 _ 0 (31 * (31 * (31 * (31 * (dPs T n mo (dTr T n mo (dLi T n mo b n) 127)) + (((nI (ifa T n mo (nI 0) (nI 0) 64))).toInt64)) + (((hiC T n mo (nI 1))).toInt64)) + ((meanV T n mo).toInt64)) + ((nI len).toInt64)) u29.1 u29.2.1 u29.2.2 (Nat.lt_succ_self _) (by omega) (by rw [hb]; rfl) (h31.1) (h31.2.1) (h31.2.2)
      · replace c1 := nTn (a := j) (b := 8) (by omega) (by decide) c1
        refine v_lload_n F dX7_digest_12 1 rfl rfl ?_
        refine v_aload_n F dX7_digest_13 0 rfl rfl ?_
        refine v_iload_n F dX7_digest_14 3 rfl rfl ?_
        refine v_cVIF F cs_RX7_272 dX7_digest_15 0 (ci := 7) rfl rfl (m_X7_count lau G ad T n mo ver S h P_ Tr_ Rg_ (co, len) Rd j (by omega) (by omega) hT hP_ hC_ hR_) (by decide) rfl rfl (Nat.le_of_ble_eq_true rfl) ⟨Nat.zero_le _, Nat.zero_le _⟩ (fun r54 u55 w56 => ?_)
        have h57 := w56.2
        refine v_topi ((cntV T n mo h j)) w56.1 ?_
        refine v_i2l F dX7_digest_18 ?_
        refine v_cSLE F cs_RX7_275 dX7_digest_19 (m_X7_mixed lau G b (((cntV T n mo h j)).toInt64) ) (by decide) rfl rfl (Nat.le_of_ble_eq_true rfl) ⟨Nat.zero_le _, Nat.zero_le _⟩ (fun r58 u59 w60 => ?_)
        subst w60
        refine v_lstore_n (lv' := [(1, .long (31 * b + (((cntV T n mo h j)).toInt64))), (3, .int (nI j)), (0, .ref (ad 0))]) F dX7_digest_22 1 rfl (by decide) rfl ?_
        refine v_iinc (lv' := [(3, .int (nI (j + 1))), (1, .long (31 * b + (((cntV T n mo h j)).toInt64))), (0, .ref (ad 0))]) F (nI (j + 1)) dX7_digest_23 rfl (nI_add j 1) (by decide) rfl ?_
        refine v_goto F 6 dX7_digest_26 (by decide) ?_
        refine v_st (w' := wC ad G (T, n, mo, ver) (S, h) u55.1 u55.2.1 u55.2.2 (co, len) Rd) (pc' := 6) (st' := []) rfl rfl rfl [0, 1, 2] (lv' := [(3, .int (nI (j + 1))), (1, .long (31 * b + (((cntV T n mo h j)).toInt64))), (0, .ref (ad 0))]) rfl ?_
        exact ih6 (j + 1) (31 * b + (((cntV T n mo h j)).toInt64)) u55.1 u55.2.1 u55.2.2 (by omega) (by omega) (by rw [hb]; rfl) (h57.1) (h57.2.1) (h57.2.2)
  refine v_st (w' := wC ad G (T, n, mo, ver) (S, h) P Tr Rg (co, len) Rd) (pc' := 6) (st' := []) rfl rfl rfl [0, 1, 2] (lv' := [(3, .int (nI 0)), (1, .long 2591), (0, .ref (ad 0))]) rfl ?_
  exact L6 _ 0 2591 P Tr Rg (Nat.lt_succ_self _) (by omega) (rfl) (hP) (hC) (hR)
