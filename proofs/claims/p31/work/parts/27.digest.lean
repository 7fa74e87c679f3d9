set_option maxHeartbeats 600000 in
set_option maxRecDepth 100000 in
theorem m_X7_prune (lau : Launch) (G : GT) (ad : Nat → Nat) (T : Nat → Int32) (n mo ver : Nat) (S : Nat → Int32) (h : Nat) (P : PT) (Tr : TT) (Rg : RT) (Tx : XT) (Rd : DT) (hn : n ≤ 20) (hh : h ≤ 6) (hR : RCI T n ver Rg) : MI lau G 13 yX7_prune cX7_prune 3 (some .int) [.ref (ad 0)] (wC ad G (T, n, mo, ver) (S, h) P Tr Rg Tx Rd) (fun u : RT => wC ad G ((prS (nvr T n n) T n n).1, (prS (nvr T n n) T n n).2.1, mo, ver + (prS (nvr T n n) T n n).2.2) (pSave S h T n mo, pSaveH h) P Tr u Tx Rd) (fun r u => r = bcI (nvr T n n) ∧ RCI T n ver u) := by
  refine mi_of (by decide +kernel) (Nat.le_of_ble_eq_true rfl) ?_
  intro p e s m args below meth c A Q F hr hlk hQ
  refine v_st (w' := wC ad G (T, n, mo, ver) (S, h) P Tr Rg Tx Rd) (pc' := 0) (st' := []) rfl rfl rfl [0] (lv' := [(0, .ref (ad 0))]) rfl ?_
  refine v_aload_n F dX7_prune_0 0 rfl rfl ?_
  refine v_get (v := .ref (ad 6)) F inlX7 (ci := 7) rfl 5 (by decide) rfl wF_RX7_49 dX7_prune_1 0 rfl rfl ?_
  refine v_cVIF F cs_RX7_127 dX7_prune_4 6 (ci := 4) rfl rfl (m_X4_neverLowest lau G ad T n mo ver (S, h) P Tr Rg Tx Rd (by omega) hR) (by decide) rfl rfl (Nat.le_of_ble_eq_true rfl) ⟨Nat.zero_le _, Nat.zero_le _⟩ (fun r1 u2 w3 => ?_)
  obtain ⟨rfl, h4⟩ := w3
  refine v_istore_n (lv' := [(1, .int (nvr T n n)), (0, .ref (ad 0))]) F dX7_prune_7 1 rfl (by decide) rfl ?_
  refine v_aload_n F dX7_prune_8 0 rfl rfl ?_
  refine v_get (v := .ref (ad 2)) F inlX7 (ci := 7) rfl 1 (by decide) rfl wF_RX7_19 dX7_prune_9 0 rfl rfl ?_
  refine v_aload_n F dX7_prune_12 0 rfl rfl ?_
  refine v_get (v := .ref (ad 1)) F inlX7 (ci := 7) rfl 0 (by decide) rfl wF_RX7_10 dX7_prune_13 0 rfl rfl ?_
  refine v_cVVF F cs_RX7_76 dX7_prune_16 2 (ci := 0) rfl rfl (m_X0_save lau G ad T n mo ver S h P Tr u2 Tx Rd (by omega)) (by decide) rfl rfl (Nat.le_of_ble_eq_true rfl) ⟨Nat.zero_le _, Nat.zero_le _⟩ (fun u6 w7 => ?_)
  refine v_aload_n F dX7_prune_19 0 rfl rfl ?_
  refine v_get (v := .ref (ad 1)) F inlX7 (ci := 7) rfl 0 (by decide) rfl wF_RX7_10 dX7_prune_20 0 rfl rfl ?_
  refine v_cVIF F cs_RX7_67 dX7_prune_23 1 (ci := 1) rfl rfl (m_X1_size lau G ad T n mo ver (pSave S h T n mo, pSaveH h) P Tr u2 Tx Rd ) (by decide) rfl rfl (Nat.le_of_ble_eq_true rfl) ⟨Nat.zero_le _, Nat.zero_le _⟩ (fun r8 u9 w10 => ?_)
  subst w10
  refine v_iconst (v := nI 1) F dX7_prune_26 (by decide) ?_
  refine v_isub F dX7_prune_27 ?_
  refine v_istore_n (lv' := [(2, .int (nI n - nI 1)), (1, .int (nvr T n n)), (0, .ref (ad 0))]) F dX7_prune_28 2 rfl (by decide) rfl ?_
  have L29 : ∀ (k_ : Nat) (k : Nat) (iv : Int32), k < k_ → (k ≤ n) → (iv = nI k - nI 1) → V p lau e (RM 13) s m args below meth c 3 G A Q (wC ad G ((prS (nvr T n n) T n (n - k)).1, (prS (nvr T n n) T n (n - k)).2.1, mo, ver + (prS (nvr T n n) T n (n - k)).2.2) (pSave S h T n mo, pSaveH h) P Tr u2 Tx Rd) 0 0 29 [(2, .int iv), (1, .int (nvr T n n)), (0, .ref (ad 0))] [] := by
    intro k_
    induction k_ with
    | zero => exact fun k iv hk_ hk hiv => absurd hk_ (Nat.not_lt_zero _)
    | succ k_ ih29 =>
      intro k iv hk_29 hk hiv
      refine v_iload_n F dX7_prune_29 2 rfl rfl ?_
      refine v_if_lt F 55 dX7_prune_30 (by decide) (fun c11 => ?_) (fun c11 => ?_)
      · have hk0 := pm_lt (by omega) hiv c11
        subst hk0
        refine v_iload_n F dX7_prune_55 1 rfl rfl ?_
        refine v_cSIE F cs_RX7_130 dX7_prune_56 (m_J6_bitCount_0f7a4 lau G (nvr T n n) ) (by decide) rfl rfl (Nat.le_of_ble_eq_true rfl) ⟨Nat.zero_le _, Nat.zero_le _⟩ (fun r12 u13 w14 => ?_)
        subst w14
        refine v_w (w' := wC ad G ((prS (nvr T n n) T n n).1, (prS (nvr T n n) T n n).2.1, mo, ver + (prS (nvr T n n) T n n).2.2) (pSave S h T n mo, pSaveH h) P Tr u2 Tx Rd) (congrArg (fun z_ => wC ad G z_ (pSave S h T n mo, pSaveH h) P Tr u2 Tx Rd) (show ((prS (nvr T n n) T n (n - 0)).1, (prS (nvr T n n) T n (n - 0)).2.1, mo, ver + (prS (nvr T n n) T n (n - 0)).2.2) = ((prS (nvr T n n) T n n).1, (prS (nvr T n n) T n n).2.1, mo, ver + (prS (nvr T n n) T n n).2.2) by first | rfl | (simp; done))) ?_
        exact v_iret F hr hlk hQ dX7_prune_59 (u2) rfl (by exact ⟨rfl, h4⟩)
      · obtain ⟨j, rfl, rfl⟩ := pm_ge hiv c11
        have hpr := prS_n (nvr T n n) T n (n - (j + 1)) (by omega)
        refine v_iload_n F dX7_prune_33 1 rfl rfl ?_
        refine v_iload_n F dX7_prune_34 2 rfl rfl ?_
        refine v_ishr F dX7_prune_35 ?_
        refine v_iconst (v := nI 1) F dX7_prune_36 (by decide) ?_
        refine v_iand F dX7_prune_37 ?_
        refine v_if_eq F 49 dX7_prune_38 (by decide) (fun hbt => ?_) (fun hbt => ?_)
        · refine v_iinc (lv' := [(2, .int (nI j + (-1))), (1, .int (nvr T n n)), (0, .ref (ad 0))]) F ((nI j + (-1))) dX7_prune_49 rfl rfl (by decide) rfl ?_
          refine v_goto F 29 dX7_prune_52 (by decide) ?_
          refine v_w (w' := wC ad G ((prS (nvr T n n) T n (n - j)).1, (prS (nvr T n n) T n (n - j)).2.1, mo, ver + (prS (nvr T n n) T n (n - j)).2.2) (pSave S h T n mo, pSaveH h) P Tr u2 Tx Rd) (congrArg (fun z_ => wC ad G z_ (pSave S h T n mo, pSaveH h) P Tr u2 Tx Rd) (show ((prS (nvr T n n) T n (n - (j + 1))).1, (prS (nvr T n n) T n (n - (j + 1))).2.1, mo, ver + (prS (nvr T n n) T n (n - (j + 1))).2.2) = ((prS (nvr T n n) T n (n - j)).1, (prS (nvr T n n) T n (n - j)).2.1, mo, ver + (prS (nvr T n n) T n (n - j)).2.2) by first | rfl | (rw [Nat.sub_self]; rfl) | exact prL_y (by omega) hbt | exact prL_x (by omega) hbt)) ?_
          refine v_st (w' := wC ad G ((prS (nvr T n n) T n (n - j)).1, (prS (nvr T n n) T n (n - j)).2.1, mo, ver + (prS (nvr T n n) T n (n - j)).2.2) (pSave S h T n mo, pSaveH h) P Tr u2 Tx Rd) (pc' := 29) (st' := []) rfl rfl rfl [0, 1, 2] (lv' := [(2, .int (nI j + (-1))), (1, .int (nvr T n n)), (0, .ref (ad 0))]) rfl ?_
          exact ih29 j (nI j + (-1)) (by omega) (by omega) (pm_st)
        · refine v_aload_n F dX7_prune_41 0 rfl rfl ?_
          refine v_get (v := .ref (ad 1)) F inlX7 (ci := 7) rfl 0 (by decide) rfl wF_RX7_10 dX7_prune_42 0 rfl rfl ?_
          refine v_iload_n F dX7_prune_45 2 rfl rfl ?_
          refine v_cVVF F cs_RX7_123 dX7_prune_46 1 (ci := 1) rfl rfl (m_X1_drop lau G ad ((prS (nvr T n n) T n (n - (j + 1))).1) ((prS (nvr T n n) T n (n - (j + 1))).2.1) mo (ver + (prS (nvr T n n) T n (n - (j + 1))).2.2) (pSave S h T n mo, pSaveH h) P Tr u2 Tx Rd j (by omega) (by omega)) (by decide) rfl rfl (Nat.le_of_ble_eq_true rfl) ⟨Nat.zero_le _, Nat.zero_le _⟩ (fun u16 w17 => ?_)
          refine v_iinc (lv' := [(2, .int (nI j + (-1))), (1, .int (nvr T n n)), (0, .ref (ad 0))]) F ((nI j + (-1))) dX7_prune_49 rfl rfl (by decide) rfl ?_
          refine v_goto F 29 dX7_prune_52 (by decide) ?_
          refine v_w (w' := wC ad G ((prS (nvr T n n) T n (n - j)).1, (prS (nvr T n n) T n (n - j)).2.1, mo, ver + (prS (nvr T n n) T n (n - j)).2.2) (pSave S h T n mo, pSaveH h) P Tr u2 Tx Rd) (congrArg (fun z_ => wC ad G z_ (pSave S h T n mo, pSaveH h) P Tr u2 Tx Rd) (show (pDrop ((prS (nvr T n n) T n (n - (j + 1))).1) ((prS (nvr T n n) T n (n - (j + 1))).2.1) j, ((prS (nvr T n n) T n (n - (j + 1))).2.1) - 1, mo, (ver + (prS (nvr T n n) T n (n - (j + 1))).2.2) + 1) = ((prS (nvr T n n) T n (n - j)).1, (prS (nvr T n n) T n (n - j)).2.1, mo, ver + (prS (nvr T n n) T n (n - j)).2.2) by first | rfl | (rw [Nat.sub_self]; rfl) | exact prL_y (by omega) hbt | exact prL_x (by omega) hbt)) ?_
          refine v_st (w' := wC ad G ((prS (nvr T n n) T n (n - j)).1, (prS (nvr T n n) T n (n - j)).2.1, mo, ver + (prS (nvr T n n) T n (n - j)).2.2) (pSave S h T n mo, pSaveH h) P Tr u2 Tx Rd) (pc' := 29) (st' := []) rfl rfl rfl [0, 1, 2] (lv' := [(2, .int (nI j + (-1))), (1, .int (nvr T n n)), (0, .ref (ad 0))]) rfl ?_
          exact ih29 j (nI j + (-1)) (by omega) (by omega) (pm_st)
  refine v_w (w' := wC ad G ((prS (nvr T n n) T n (n - n)).1, (prS (nvr T n n) T n (n - n)).2.1, mo, ver + (prS (nvr T n n) T n (n - n)).2.2) (pSave S h T n mo, pSaveH h) P Tr u2 Tx Rd) (congrArg (fun z_ => wC ad G z_ (pSave S h T n mo, pSaveH h) P Tr u2 Tx Rd) (show (T, n, mo, ver) = ((prS (nvr T n n) T n (n - n)).1, (prS (nvr T n n) T n (n - n)).2.1, mo, ver + (prS (nvr T n n) T n (n - n)).2.2) by first | rfl | (rw [Nat.sub_self]; rfl) | exact prL_y (by omega) hbt | exact prL_x (by omega) hbt)) ?_
  refine v_st (w' := wC ad G ((prS (nvr T n n) T n (n - n)).1, (prS (nvr T n n) T n (n - n)).2.1, mo, ver + (prS (nvr T n n) T n (n - n)).2.2) (pSave S h T n mo, pSaveH h) P Tr u2 Tx Rd) (pc' := 29) (st' := []) rfl rfl rfl [0, 1, 2] (lv' := [(2, .int (nI n - nI 1)), (1, .int (nvr T n n)), (0, .ref (ad 0))]) rfl ?_
  exact L29 _ n (nI n - nI 1) (Nat.lt_succ_self _) (by omega) (rfl)
theorem cs_RX7_267 : CSV RX7 267 RX7 yX7_sum cX7_sum 6 (some .int) 2 := ⟨wC_yX7_sum, wM_RX7_267, wIm_yX7_sum, wSe_yX7_sum, wI_RX7, by decide +kernel, by decide⟩
set_option maxHeartbeats 600000 in
set_option maxRecDepth 100000 in
theorem m_X7_mean (lau : Launch) (G : GT) (ad : Nat → Nat) (T : Nat → Int32) (n mo ver : Nat) (S : Nat → Int32) (h : Nat) (P : PT) (Tr : TT) (Rg : RT) (Tx : XT) (Rd : DT) (hn : n ≤ 20) (hT : TOK T n) (hP : PCI T n mo ver P) (hC : TCI T n mo ver Tr) (hR : RCI T n ver Rg) : MD lau G 14 yX7_mean cX7_mean 2 (some .double) [.ref (ad 0)] (wC ad G (T, n, mo, ver) (S, h) P Tr Rg Tx Rd) (fun u : PT × TT × RT => wC ad G (T, n, mo, ver) (S, h) u.1 u.2.1 u.2.2 Tx Rd) (fun r u => r = meanV T n mo ∧ PCI T n mo ver u.1 ∧ TCI T n mo ver u.2.1 ∧ RCI T n ver u.2.2) := by
  have hpl := plc_le T n mo (-1) 64
  refine md_of (by decide +kernel) (Nat.le_of_ble_eq_true rfl) ?_
  intro p e s m args below meth c A Q F hr hlk hQ
  refine v_st (w' := wC ad G (T, n, mo, ver) (S, h) P Tr Rg Tx Rd) (pc' := 0) (st' := []) rfl rfl rfl [0] (lv' := [(0, .ref (ad 0))]) rfl ?_
  refine v_bipush (v := nI 64) F dX7_mean_0 (by decide) ?_
  refine v_aload_n F dX7_mean_2 0 rfl rfl ?_
  refine v_get (v := .ref (ad 4)) F inlX7 (ci := 7) rfl 3 (by decide) rfl wF_RX7_35 dX7_mean_3 0 rfl rfl ?_
  refine v_iconst (v := (-1)) F dX7_mean_6 (by decide) ?_
  refine v_cVIF F cs_RX7_185 dX7_mean_7 4 (ci := 2) rfl rfl (m_X2_placesOf lau G ad T n mo ver (S, h) P Tr Rg Tx Rd (-1) (by omega) hP) (by decide) rfl rfl (Nat.le_of_ble_eq_true rfl) ⟨Nat.zero_le _, Nat.zero_le _⟩ (fun r1 u2 w3 => ?_)
  obtain ⟨rfl, h4⟩ := w3
  refine v_isub F dX7_mean_10 ?_
  refine v_topi (nI (64 - plc T n mo (-1) 64)) (pk_sub hpl) ?_
  refine v_istore_n (lv' := [(1, .int (nI (64 - plc T n mo (-1) 64))), (0, .ref (ad 0))]) F dX7_mean_11 1 rfl (by decide) rfl ?_
  refine v_iload_n F dX7_mean_12 1 rfl rfl ?_
  refine v_if_ne F 18 dX7_mean_13 (by decide) (fun c5 => ?_) (fun c5 => ?_)
  · replace c5 := nEn (a := (64 - plc T n mo (-1) 64)) (b := 0) (by omega) (by decide) c5
    refine v_aload_n F dX7_mean_18 0 rfl rfl ?_
    refine v_iconst (v := nI 0) F dX7_mean_19 (by decide) ?_
    refine v_bipush (v := nI 63) F dX7_mean_20 (by decide) ?_
    refine v_cVIF F cs_RX7_267 dX7_mean_22 0 (ci := 7) rfl rfl (m_X7_sum lau G ad T n mo ver S h u2 Tr Rg Tx Rd 0 63 (by omega) (by omega) (by omega) hT h4 hC hR) (by decide) rfl rfl (Nat.le_of_ble_eq_true rfl) ⟨Nat.zero_le _, Nat.zero_le _⟩ (fun r6 u7 w8 => ?_)
    have h9 := w8.2
    refine v_topi ((sm T n mo 0 (63 + 1 - 0))) w8.1 ?_
    refine v_i2d F dX7_mean_25 ?_
    refine v_iload_n F dX7_mean_26 1 rfl rfl ?_
    refine v_i2d F dX7_mean_27 ?_
    refine v_ddiv F dX7_mean_28 (mean_nn T n mo (by omega)) ?_
    exact v_dret F hr hlk hQ dX7_mean_29 ((u7.1, u7.2.1, u7.2.2)) rfl (by refine ⟨?_, h9.1, h9.2.1, h9.2.2⟩; rw [meanV, if_neg (by omega)])
  · replace c5 := nE (a := (64 - plc T n mo (-1) 64)) (b := 0) (by omega) (by decide) c5
    refine v_dconst0 F dX7_mean_16 ?_
    exact v_dret F hr hlk hQ dX7_mean_17 ((u2, Tr, Rg)) rfl (by refine ⟨?_, h4, hC, hR⟩; rw [meanV, if_pos (by omega)])
