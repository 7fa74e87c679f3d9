theorem cs_RX8_171 : CSV RX8 171 RX8 yX8_grows cX8_grows 3 none 0 := ⟨wC_yX8_grows, wM_RX8_171, wIm_yX8_grows, wSe_yX8_grows, wI_RX8, by decide +kernel, by decide⟩
set_option maxHeartbeats 400000 in
set_option maxRecDepth 100000 in
theorem m_X8_inTree (lau : Launch) (G : GT) (ad : Nat → Nat) (T : Nat → Int32) (n mo : Nat) (Hs : HT) (Xt : XT) (Tw : Nat) (Qs : QT) (ke sp : Nat → Int32) (Lo Wi : Nat → Int32) (b : Bool) (hn : n ≤ 20) (hT : TOK T n) : MI lau G 6 yX8_inTree cX8_inTree 4 (some .int) [.ref (ad 0), .int (bI b)] (wM ad G (snp T n mo) Hs Xt Tw Qs (ke, sp) Lo Wi) (fun u : KS => wM ad G (snp T n mo) Hs Xt Tw Qs u Lo Wi) (fun r u => r = inV T n mo b) := by
  refine mi_of (by decide +kernel) (Nat.le_of_ble_eq_true rfl) ?_
  intro p e s m args below meth c A Q F hr hlk hQ
  refine v_st (w' := wM ad G (snp T n mo) Hs Xt Tw Qs (ke, sp) Lo Wi) (pc' := 0) (st' := []) rfl rfl rfl [0, 1] (lv' := [(0, .ref (ad 0)), (1, .int (bI b))]) rfl ?_
  refine v_aload_n F dX8_inTree_0 0 rfl rfl ?_
  refine v_cVVF F cs_RX8_171 dX8_inTree_1 0 (ci := 8) rfl rfl (m_X8_grows lau G ad T n mo Hs Xt Tw Qs ke sp Lo Wi (by omega) hT) (by decide) rfl rfl (Nat.le_of_ble_eq_true rfl) ⟨Nat.zero_le _, Nat.zero_le _⟩ (fun u2 w3 => ?_)
  refine v_iconst (v := nI 0) F dX8_inTree_4 (by decide) ?_
  refine v_istore_n (lv' := [(2, .int (nI 0)), (0, .ref (ad 0)), (1, .int (bI b))]) F dX8_inTree_5 2 rfl (by decide) rfl ?_
  refine v_iconst (v := nI 1) F dX8_inTree_6 (by decide) ?_
  refine v_istore_n (lv' := [(3, .int (nI 1)), (2, .int (nI 0)), (0, .ref (ad 0)), (1, .int (bI b))]) F dX8_inTree_7 3 rfl (by decide) rfl ?_
  have L8 : ∀ (k_ : Nat) (k : Nat) (sv : Int32), 128 - k < k_ → (1 ≤ k) → (k ≤ 128) → (sv = inT T n mo b k) → V p lau e (RM 6) s m args below meth c 4 G A Q (wM ad G (snp T n mo) Hs Xt Tw Qs u2 Lo Wi) 0 0 8 [(3, .int (nI k)), (2, .int sv), (0, .ref (ad 0)), (1, .int (bI b))] [] := by
    intro k_
    induction k_ with
    | zero => exact fun k sv hk_ hk1 hk2 hs => absurd hk_ (Nat.not_lt_zero _)
    | succ k_ ih8 =>
      intro k sv hk_8 hk1 hk2 hs
      refine v_iload_n F dX8_inTree_8 3 rfl rfl ?_
      refine v_sipush (v := nI 128) F dX8_inTree_9 (by decide) ?_
      refine v_icmp_ge F 52 dX8_inTree_12 (by decide) (fun c4 => ?_) (fun c4 => ?_)
      · replace c4 := nG (a := k) (b := 128) (by omega) (by decide) c4
        refine v_iload_n F dX8_inTree_52 2 rfl rfl ?_
        exact v_iret F hr hlk hQ dX8_inTree_53 (u2) rfl (by rw [hs, show k = 128 by omega]; exact inT_e)
      · replace c4 := nGn (a := k) (b := 128) (by omega) (by decide) c4
        refine v_iload_n F dX8_inTree_15 2 rfl rfl ?_
        refine v_iload_n F dX8_inTree_16 1 rfl rfl ?_
        refine v_if_eq F 29 dX8_inTree_17 (by decide) (fun hb => ?_) (fun hb => ?_)
        · replace hb := bI_f hb
          refine v_aload_n F dX8_inTree_29 0 rfl rfl ?_
          refine v_get (v := .ref (ad 5)) F inlX8 (ci := 8) rfl 11 (by decide) rfl wF_RX8_22 dX8_inTree_30 0 rfl rfl ?_
          refine v_iload_n F dX8_inTree_33 3 rfl rfl ?_
          refine v_ialdN F dX8_inTree_34 5 rfl k rfl (by omega) (by decide) (u2.1 k) rfl ?_
          refine v_topi ((kp T n mo k)) ((w3 _ (by omega)).1) ?_
          refine v_iconst (v := (-1)) F dX8_inTree_35 (by decide) ?_
          refine v_icmp_ne F 43 dX8_inTree_36 (by decide) (fun hk => ?_) (fun hk => ?_)
          · refine v_iconst (v := nI 1) F dX8_inTree_43 (by decide) ?_
            refine v_iadd F dX8_inTree_44 ?_
            refine v_istore_n (lv' := [(2, .int (sv + nI 1)), (3, .int (nI k)), (0, .ref (ad 0)), (1, .int (bI b))]) F dX8_inTree_45 2 rfl (by decide) rfl ?_
            refine v_iinc (lv' := [(3, .int (nI (k + 1))), (2, .int (sv + nI 1)), (0, .ref (ad 0)), (1, .int (bI b))]) F (nI (k + 1)) dX8_inTree_46 rfl (nI_add k 1) (by decide) rfl ?_
            refine v_goto F 8 dX8_inTree_49 (by decide) ?_
            refine v_st (w' := wM ad G (snp T n mo) Hs Xt Tw Qs u2 Lo Wi) (pc' := 8) (st' := []) rfl rfl rfl [0, 1, 2, 3] (lv' := [(3, .int (nI (k + 1))), (2, .int (sv + nI 1)), (0, .ref (ad 0)), (1, .int (bI b))]) rfl ?_
            exact ih8 (k + 1) (sv + nI 1) (by omega) (by omega) (by omega) (by first | (rw [inT_1 hk1 hb, hs]; done) | (rw [inT_2 hk1 hb hk, hs]; done) | (rw [inT_3 hk1 hb hk, hs]; done))
          · refine v_iconst (v := nI 0) F dX8_inTree_39 (by decide) ?_
            refine v_goto F 44 dX8_inTree_40 (by decide) ?_
            refine v_iadd F dX8_inTree_44 ?_
            refine v_istore_n (lv' := [(2, .int (sv + nI 0)), (3, .int (nI k)), (0, .ref (ad 0)), (1, .int (bI b))]) F dX8_inTree_45 2 rfl (by decide) rfl ?_
            refine v_iinc (lv' := [(3, .int (nI (k + 1))), (2, .int (sv + nI 0)), (0, .ref (ad 0)), (1, .int (bI b))]) F (nI (k + 1)) dX8_inTree_46 rfl (nI_add k 1) (by decide) rfl ?_
            refine v_goto F 8 dX8_inTree_49 (by decide) ?_
            refine v_st (w' := wM ad G (snp T n mo) Hs Xt Tw Qs u2 Lo Wi) (pc' := 8) (st' := []) rfl rfl rfl [0, 1, 2, 3] (lv' := [(3, .int (nI (k + 1))), (2, .int (sv + nI 0)), (0, .ref (ad 0)), (1, .int (bI b))]) rfl ?_
            exact ih8 (k + 1) (sv + nI 0) (by omega) (by omega) (by omega) (by first | (rw [inT_1 hk1 hb, hs]; done) | (rw [inT_2 hk1 hb hk, hs]; done) | (rw [inT_3 hk1 hb hk, hs]; done))
        · replace hb := bI_t hb
          refine v_aload_n F dX8_inTree_20 0 rfl rfl ?_
          refine v_get (v := .ref (ad 6)) F inlX8 (ci := 8) rfl 12 (by decide) rfl wF_RX8_25 dX8_inTree_21 0 rfl rfl ?_
          refine v_iload_n F dX8_inTree_24 3 rfl rfl ?_
          refine v_ialdN F dX8_inTree_25 6 rfl k rfl (by omega) (by decide) (u2.2 k) rfl ?_
          refine v_topi ((stp T n mo k)) ((w3 _ (by omega)).2) ?_
          refine v_goto F 44 dX8_inTree_26 (by decide) ?_
          refine v_iadd F dX8_inTree_44 ?_
          refine v_istore_n (lv' := [(2, .int (sv + (stp T n mo k))), (3, .int (nI k)), (0, .ref (ad 0)), (1, .int (bI b))]) F dX8_inTree_45 2 rfl (by decide) rfl ?_
          refine v_iinc (lv' := [(3, .int (nI (k + 1))), (2, .int (sv + (stp T n mo k))), (0, .ref (ad 0)), (1, .int (bI b))]) F (nI (k + 1)) dX8_inTree_46 rfl (nI_add k 1) (by decide) rfl ?_
          refine v_goto F 8 dX8_inTree_49 (by decide) ?_
          refine v_st (w' := wM ad G (snp T n mo) Hs Xt Tw Qs u2 Lo Wi) (pc' := 8) (st' := []) rfl rfl rfl [0, 1, 2, 3] (lv' := [(3, .int (nI (k + 1))), (2, .int (sv + (stp T n mo k))), (0, .ref (ad 0)), (1, .int (bI b))]) rfl ?_
          exact ih8 (k + 1) (sv + (stp T n mo k)) (by omega) (by omega) (by omega) (by first | (rw [inT_1 hk1 hb, hs]; done) | (rw [inT_2 hk1 hb hk, hs]; done) | (rw [inT_3 hk1 hb hk, hs]; done))
  refine v_st (w' := wM ad G (snp T n mo) Hs Xt Tw Qs u2 Lo Wi) (pc' := 8) (st' := []) rfl rfl rfl [0, 1, 2, 3] (lv' := [(3, .int (nI 1)), (2, .int (nI 0)), (0, .ref (ad 0)), (1, .int (bI b))]) rfl ?_
  exact L8 _ 1 (nI 0) (Nat.lt_succ_self _) (by omega) (by omega) (by rw [inT, if_neg (by decide)]; rfl)
set_option maxHeartbeats 400000 in
set_option maxRecDepth 100000 in
theorem m_X8_ofNode (lau : Launch) (G : GT) (ad : Nat → Nat) (T : Nat → Int32) (n mo : Nat) (Hs : HT) (Xt : XT) (Tw : Nat) (Qs : QT) (ke sp : Nat → Int32) (Lo Wi : Nat → Int32) (k wj : Nat) (hk1 : 1 ≤ k) (hk2 : k ≤ 127) (hw : wj ≤ 4) (hn : n ≤ 20) (hT : TOK T n) : MI lau G 6 yX8_ofNode cX8_ofNode 3 (some .int) [.ref (ad 0), .int (nI k), .int (nI wj)] (wM ad G (snp T n mo) Hs Xt Tw Qs (ke, sp) Lo Wi) (fun u : KS => wM ad G (snp T n mo) Hs Xt Tw Qs u Lo Wi) (fun r u => r = ndV T n mo k wj) := by
  refine mi_of (by decide +kernel) (Nat.le_of_ble_eq_true rfl) ?_
  intro p e s m args below meth c A Q F hr hlk hQ
  refine v_st (w' := wM ad G (snp T n mo) Hs Xt Tw Qs (ke, sp) Lo Wi) (pc' := 0) (st' := []) rfl rfl rfl [0, 1, 2] (lv' := [(0, .ref (ad 0)), (1, .int (nI k)), (2, .int (nI wj))]) rfl ?_
  refine v_iload_n F dX8_ofNode_0 2 rfl rfl ?_
  refine v_if_eq F 9 dX8_ofNode_1 (by decide) (fun c1 => ?_) (fun c1 => ?_)
  · replace c1 := nE (a := wj) (b := 0) (by omega) (by decide) c1
    refine v_aload_n F dX8_ofNode_9 0 rfl rfl ?_
    refine v_cVVF F cs_RX8_171 dX8_ofNode_10 0 (ci := 8) rfl rfl (m_X8_grows lau G ad T n mo Hs Xt Tw Qs ke sp Lo Wi (by omega) hT) (by decide) rfl rfl (Nat.le_of_ble_eq_true rfl) ⟨Nat.zero_le _, Nat.zero_le _⟩ (fun u3 w4 => ?_)
    refine v_iload_n F dX8_ofNode_13 2 rfl rfl ?_
    refine v_if_ne F 26 dX8_ofNode_14 (by decide) (fun c5 => ?_) (fun c5 => ?_)
    · replace c5 := nEn (a := wj) (b := 0) (by omega) (by decide) c5
      refine v_aload_n F dX8_ofNode_26 0 rfl rfl ?_
      refine v_get (v := .ref (ad 6)) F inlX8 (ci := 8) rfl 12 (by decide) rfl wF_RX8_25 dX8_ofNode_27 0 rfl rfl ?_
      refine v_iload_n F dX8_ofNode_30 1 rfl rfl ?_
      refine v_ialdN F dX8_ofNode_31 6 rfl k rfl (by omega) (by decide) (u3.2 k) rfl ?_
      refine v_topi ((stp T n mo k)) ((w4 _ (by omega)).2) ?_
      exact v_iret F hr hlk hQ dX8_ofNode_32 (u3) rfl (by first | (simp [ndV, mdO, *]; done) | (refine ndV_3 hw ?_ ?_ ?_ ?_ <;> omega) | (exfalso; omega))
    · replace c5 := nE (a := wj) (b := 0) (by omega) (by decide) c5
      refine v_aload_n F dX8_ofNode_17 0 rfl rfl ?_
      refine v_get (v := .ref (ad 5)) F inlX8 (ci := 8) rfl 11 (by decide) rfl wF_RX8_22 dX8_ofNode_18 0 rfl rfl ?_
      refine v_iload_n F dX8_ofNode_21 1 rfl rfl ?_
      refine v_ialdN F dX8_ofNode_22 5 rfl k rfl (by omega) (by decide) (u3.1 k) rfl ?_
      refine v_topi ((kp T n mo k)) ((w4 _ (by omega)).1) ?_
      refine v_goto F 32 dX8_ofNode_23 (by decide) ?_
      exact v_iret F hr hlk hQ dX8_ofNode_32 (u3) rfl (by first | (simp [ndV, mdO, *]; done) | (refine ndV_3 hw ?_ ?_ ?_ ?_ <;> omega) | (exfalso; omega))
  · replace c1 := nEn (a := wj) (b := 0) (by omega) (by decide) c1
    refine v_iload_n F dX8_ofNode_4 2 rfl rfl ?_
    refine v_iconst (v := nI 4) F dX8_ofNode_5 (by decide) ?_
    refine v_icmp_ne F 33 dX8_ofNode_6 (by decide) (fun c6 => ?_) (fun c6 => ?_)
    · replace c6 := nEn (a := wj) (b := 4) (by omega) (by decide) c6
      refine v_iload_n F dX8_ofNode_33 2 rfl rfl ?_
      refine v_iconst (v := nI 1) F dX8_ofNode_34 (by decide) ?_
      refine v_icmp_ne F 45 dX8_ofNode_35 (by decide) (fun c7 => ?_) (fun c7 => ?_)
      · replace c7 := nEn (a := wj) (b := 1) (by omega) (by decide) c7
        refine v_iload_n F dX8_ofNode_45 2 rfl rfl ?_
        refine v_iconst (v := nI 2) F dX8_ofNode_46 (by decide) ?_
        refine v_icmp_ne F 57 dX8_ofNode_47 (by decide) (fun c8 => ?_) (fun c8 => ?_)
        · replace c8 := nEn (a := wj) (b := 2) (by omega) (by decide) c8
          refine v_iload_n F dX8_ofNode_57 1 rfl rfl ?_
          refine v_cSIE F cs_RX8_108 dX8_ofNode_58 (m_X8_middleOf lau G k (by omega) (by omega)) (by decide) rfl rfl (Nat.le_of_ble_eq_true rfl) ⟨Nat.zero_le _, Nat.zero_le _⟩ (fun r9 u10 w11 => ?_)
          subst w11
          exact v_iret F hr hlk hQ dX8_ofNode_61 ((ke, sp)) rfl (by first | (simp [ndV, mdO, *]; done) | (refine ndV_3 hw ?_ ?_ ?_ ?_ <;> omega) | (exfalso; omega))
        · replace c8 := nE (a := wj) (b := 2) (by omega) (by decide) c8
          refine v_iload_n F dX8_ofNode_50 1 rfl rfl ?_
          refine v_cSIE F cs_RX8_105 dX8_ofNode_51 (m_X8_lastOf lau G k (by omega) (by omega)) (by decide) rfl rfl (Nat.le_of_ble_eq_true rfl) ⟨Nat.zero_le _, Nat.zero_le _⟩ (fun r12 u13 w14 => ?_)
          subst w14
          refine v_goto F 61 dX8_ofNode_54 (by decide) ?_
          exact v_iret F hr hlk hQ dX8_ofNode_61 ((ke, sp)) rfl (by first | (simp [ndV, mdO, *]; done) | (refine ndV_3 hw ?_ ?_ ?_ ?_ <;> omega) | (exfalso; omega))
      · replace c7 := nE (a := wj) (b := 1) (by omega) (by decide) c7
        refine v_iload_n F dX8_ofNode_38 1 rfl rfl ?_
        refine v_cSIE F cs_RX8_99 dX8_ofNode_39 (m_X8_firstOf lau G k (by omega) (by omega)) (by decide) rfl rfl (Nat.le_of_ble_eq_true rfl) ⟨Nat.zero_le _, Nat.zero_le _⟩ (fun r15 u16 w17 => ?_)
        subst w17
        refine v_goto F 61 dX8_ofNode_42 (by decide) ?_
        exact v_iret F hr hlk hQ dX8_ofNode_61 ((ke, sp)) rfl (by first | (simp [ndV, mdO, *]; done) | (refine ndV_3 hw ?_ ?_ ?_ ?_ <;> omega) | (exfalso; omega))
    · replace c6 := nE (a := wj) (b := 4) (by omega) (by decide) c6
      refine v_aload_n F dX8_ofNode_9 0 rfl rfl ?_
      refine v_cVVF F cs_RX8_171 dX8_ofNode_10 0 (ci := 8) rfl rfl (m_X8_grows lau G ad T n mo Hs Xt Tw Qs ke sp Lo Wi (by omega) hT) (by decide) rfl rfl (Nat.le_of_ble_eq_true rfl) ⟨Nat.zero_le _, Nat.zero_le _⟩ (fun u19 w20 => ?_)
      refine v_iload_n F dX8_ofNode_13 2 rfl rfl ?_
      refine v_if_ne F 26 dX8_ofNode_14 (by decide) (fun c21 => ?_) (fun c21 => ?_)
      · replace c21 := nEn (a := wj) (b := 0) (by omega) (by decide) c21
        refine v_aload_n F dX8_ofNode_26 0 rfl rfl ?_
        refine v_get (v := .ref (ad 6)) F inlX8 (ci := 8) rfl 12 (by decide) rfl wF_RX8_25 dX8_ofNode_27 0 rfl rfl ?_
        refine v_iload_n F dX8_ofNode_30 1 rfl rfl ?_
        refine v_ialdN F dX8_ofNode_31 6 rfl k rfl (by omega) (by decide) (u19.2 k) rfl ?_
        refine v_topi ((stp T n mo k)) ((w20 _ (by omega)).2) ?_
        exact v_iret F hr hlk hQ dX8_ofNode_32 (u19) rfl (by first | (simp [ndV, mdO, *]; done) | (refine ndV_3 hw ?_ ?_ ?_ ?_ <;> omega) | (exfalso; omega))
      · replace c21 := nE (a := wj) (b := 0) (by omega) (by decide) c21
        refine v_aload_n F dX8_ofNode_17 0 rfl rfl ?_
        refine v_get (v := .ref (ad 5)) F inlX8 (ci := 8) rfl 11 (by decide) rfl wF_RX8_22 dX8_ofNode_18 0 rfl rfl ?_
        refine v_iload_n F dX8_ofNode_21 1 rfl rfl ?_
        refine v_ialdN F dX8_ofNode_22 5 rfl k rfl (by omega) (by decide) (u19.1 k) rfl ?_
        refine v_topi ((kp T n mo k)) ((w20 _ (by omega)).1) ?_
        refine v_goto F 32 dX8_ofNode_23 (by decide) ?_
        exact v_iret F hr hlk hQ dX8_ofNode_32 (u19) rfl (by first | (simp [ndV, mdO, *]; done) | (refine ndV_3 hw ?_ ?_ ?_ ?_ <;> omega) | (exfalso; omega))
theorem cs_RX8_180 : CSV RX8 180 RX8 yX8_ofNode cX8_ofNode 3 (some .int) 2 := ⟨wC_yX8_ofNode, wM_RX8_180, wIm_yX8_ofNode, wSe_yX8_ofNode, wI_RX8, by decide +kernel, by decide⟩
set_option maxHeartbeats 400000 in
set_option maxRecDepth 100000 in
theorem m_X8_node (lau : Launch) (G : GT) (ad : Nat → Nat) (T : Nat → Int32) (n mo : Nat) (Hs : HT) (Xt : XT) (Tw : Nat) (Qs : QT) (ke sp : Nat → Int32) (Lo Wi : Nat → Int32) (k_ wh : Int32) (hn : n ≤ 20) (hT : TOK T n) : MI lau G 8 yX8_node cX8_node 3 (some .int) [.ref (ad 0), .int k_, .int wh] (wM ad G (snp T n mo) Hs Xt Tw Qs (ke, sp) Lo Wi) (fun u : MS => wM ad G u.1 u.2.1 u.2.2.1 (xNode k_ wh) u.2.2.2.1 u.2.2.2.2.1 u.2.2.2.2.2.1 u.2.2.2.2.2.2) (fun r u => (xNode k_ wh = 0 → r = ndV T n mo k_.toNatClampNeg wh.toNatClampNeg ∧ u.1 = snp T n mo ∧ u.2.1 = Hs ∧ u.2.2.1 = Xt) ∧ (¬ xNode k_ wh = 0 → u.1 = snp T n mo ∧ u.2.1 = Hs ∧ u.2.2.1 = Xt)) := by
  refine mi_of (by decide +kernel) (Nat.le_of_ble_eq_true rfl) ?_
  intro p e s m args below meth c A Q F hr hlk hQ
  refine v_st (w' := wM ad G (snp T n mo) Hs Xt Tw Qs (ke, sp) Lo Wi) (pc' := 0) (st' := []) rfl rfl rfl [0, 1, 2] (lv' := [(0, .ref (ad 0)), (1, .int k_), (2, .int wh)]) rfl ?_
  refine v_aload_n F dX8_node_0 0 rfl rfl ?_
  refine v_iconst (v := nI 0) F dX8_node_1 (by decide) ?_
  refine v_put F inlX8 (ci := 8) rfl tyX8 tyX8_ok nmX8 5 (by decide) rfl rfl wF_RX8_35 dX8_node_2 (ty := .int) (by decide +kernel) rfl rfl 0 rfl (Nat.le_of_ble_eq_true rfl) (wM ad G (snp T n mo) Hs Xt (0) Qs (ke, sp) Lo Wi) rfl ?_
  refine v_iload_n F dX8_node_5 1 rfl rfl ?_
  refine v_iconst (v := nI 1) F dX8_node_6 (by decide) ?_
  refine v_bipush (v := nI 127) F dX8_node_7 (by decide) ?_
  refine v_cSIE F cs_RX8_39 dX8_node_9 (m_X8_in lau G k_ (nI 1) (nI 127) ) (by decide) rfl rfl (Nat.le_of_ble_eq_true rfl) ⟨Nat.zero_le _, Nat.zero_le _⟩ (fun r1 u2 w3 => ?_)
  subst w3
  refine v_if_ne F 21 dX8_node_12 (by decide) (fun c4 => ?_) (fun c4 => ?_)
  · replace c4 := bI_t c4
    have hin := c4
    refine v_iload_n F dX8_node_21 2 rfl rfl ?_
    refine v_iconst (v := nI 0) F dX8_node_22 (by decide) ?_
    refine v_iconst (v := nI 4) F dX8_node_23 (by decide) ?_
    refine v_cSIE F cs_RX8_39 dX8_node_24 (m_X8_in lau G wh (nI 0) (nI 4) ) (by decide) rfl rfl (Nat.le_of_ble_eq_true rfl) ⟨Nat.zero_le _, Nat.zero_le _⟩ (fun r5 u6 w7 => ?_)
    subst w7
    refine v_if_eq F 39 dX8_node_27 (by decide) (fun c8 => ?_) (fun c8 => ?_)
    · replace c8 := bI_f c8
      have hxb := xNode_b hin c8
      refine v_aload_n F dX8_node_39 0 rfl rfl ?_
      refine v_iconst (v := nI 2) F dX8_node_40 (by decide) ?_
      refine v_cVIF F cs_RX8_46 dX8_node_41 0 (ci := 8) rfl rfl (m_X8_fails lau G ad (snp T n mo) Hs Xt (0) Qs (ke, sp) Lo Wi 2 ) (by decide) rfl rfl (Nat.le_of_ble_eq_true rfl) ⟨Nat.zero_le _, Nat.zero_le _⟩ (fun r9 u10 w11 => ?_)
      subst w11
      refine v_w (w' := wM ad G (snp T n mo) Hs Xt (xNode k_ wh) Qs (ke, sp) Lo Wi) (congrArg (fun z_ => wM ad G (snp T n mo) Hs Xt z_ Qs (ke, sp) Lo Wi) (show 2 = (xNode k_ wh) by simp [if_true, *])) ?_
      exact v_iret F hr hlk hQ dX8_node_44 (((snp T n mo), Hs, Xt, Qs, (ke, sp), Lo, Wi)) rfl (by first | (refine ⟨fun q => absurd q ?_, fun _ => ⟨rfl, rfl, rfl⟩⟩; simp [if_true, *]; done) | (refine ⟨fun _ => ⟨?_, ?_, ?_, ?_⟩, fun q => absurd ?_ q⟩; (rw [hc_k, hc_wj]); (rfl); (rfl); (rfl); simp [if_true, *]; done))
    · replace c8 := bI_t c8
      have hxc := xNode_c hin c8
      obtain ⟨k, hk1, hk2, rfl⟩ := inB_nat (by decide) (by decide) hin
      obtain ⟨wj, -, hw, rfl⟩ := inB_nat (by decide) (by decide) c8
      have hc_k : (nI k).toNatClampNeg = k := nI_clamp (by omega)
      have hc_wj : (nI wj).toNatClampNeg = wj := nI_clamp (by omega)
      refine v_aload_n F dX8_node_30 0 rfl rfl ?_
      refine v_iload_n F dX8_node_31 1 rfl rfl ?_
      refine v_iload_n F dX8_node_32 2 rfl rfl ?_
      refine v_cVIF F cs_RX8_180 dX8_node_33 0 (ci := 8) rfl rfl (m_X8_ofNode lau G ad T n mo Hs Xt (0) Qs ke sp Lo Wi k wj (by omega) (by omega) (by omega) (by omega) hT) (by decide) rfl rfl (Nat.le_of_ble_eq_true rfl) ⟨Nat.zero_le _, Nat.zero_le _⟩ (fun r12 u13 w14 => ?_)
      refine v_topi (ndV T n mo k wj) w14 ?_
      refine v_goto F 44 dX8_node_36 (by decide) ?_
      refine v_w (w' := wM ad G (snp T n mo) Hs Xt (xNode (nI k) (nI wj)) Qs u13 Lo Wi) (congrArg (fun z_ => wM ad G (snp T n mo) Hs Xt z_ Qs u13 Lo Wi) (show (0) = (xNode (nI k) (nI wj)) by simp [if_true, *])) ?_
      exact v_iret F hr hlk hQ dX8_node_44 (((snp T n mo), Hs, Xt, Qs, u13, Lo, Wi)) rfl (by first | (refine ⟨fun q => absurd q ?_, fun _ => ⟨rfl, rfl, rfl⟩⟩; simp [if_true, *]; done) | (refine ⟨fun _ => ⟨?_, ?_, ?_, ?_⟩, fun q => absurd ?_ q⟩; (rw [hc_k, hc_wj]); (rfl); (rfl); (rfl); simp [if_true, *]; done))
  · replace c4 := bI_f c4
    have hxa := xNode_a (wh := wh) c4
    refine v_aload_n F dX8_node_15 0 rfl rfl ?_
    refine v_iconst (v := nI 1) F dX8_node_16 (by decide) ?_
    refine v_cVIF F cs_RX8_46 dX8_node_17 0 (ci := 8) rfl rfl (m_X8_fails lau G ad (snp T n mo) Hs Xt (0) Qs (ke, sp) Lo Wi 1 ) (by decide) rfl rfl (Nat.le_of_ble_eq_true rfl) ⟨Nat.zero_le _, Nat.zero_le _⟩ (fun r15 u16 w17 => ?_)
    subst w17
    refine v_w (w' := wM ad G (snp T n mo) Hs Xt (xNode k_ wh) Qs (ke, sp) Lo Wi) (congrArg (fun z_ => wM ad G (snp T n mo) Hs Xt z_ Qs (ke, sp) Lo Wi) (show 1 = (xNode k_ wh) by simp [if_true, *])) ?_
    exact v_iret F hr hlk hQ dX8_node_20 (((snp T n mo), Hs, Xt, Qs, (ke, sp), Lo, Wi)) rfl (by first | (refine ⟨fun q => absurd q ?_, fun _ => ⟨rfl, rfl, rfl⟩⟩; simp [if_true, *]; done) | (refine ⟨fun _ => ⟨?_, ?_, ?_, ?_⟩, fun q => absurd ?_ q⟩; (rw [hc_k, hc_wj]); (rfl); (rfl); (rfl); simp [if_true, *]; done))
set_option maxHeartbeats 400000 in
set_option maxRecDepth 100000 in
theorem m_X8_ofRow (lau : Launch) (G : GT) (ad : Nat → Nat) (T : Nat → Int32) (n mo : Nat) (Hs : HT) (Xt : XT) (Tw : Nat) (Qs : QT) (Ks : KS) (Lo Wi : Nat → Int32) (r_ wj : Nat) (hrr : r_ < 2147483648) (hw : wj ≤ 3) (hn : n ≤ 20) : MI lau G 5 yX8_ofRow cX8_ofRow 8 (some .int) [.ref (ad 0), .int (nI r_), .int (nI wj)] (wM ad G (snp T n mo) Hs Xt Tw Qs Ks Lo Wi) (fun u : Nat → Int32 => wM ad G (snp T n mo) Hs Xt Tw Qs Ks u Wi) (fun r u => r = ofR T n mo r_ wj) := by
  refine mi_of (by decide +kernel) (Nat.le_of_ble_eq_true rfl) ?_
  intro p e s m args below meth c A Q F hr hlk hQ
  refine v_st (w' := wM ad G (snp T n mo) Hs Xt Tw Qs Ks Lo Wi) (pc' := 0) (st' := []) rfl rfl rfl [0, 1, 2] (lv' := [(0, .ref (ad 0)), (1, .int (nI r_)), (2, .int (nI wj))]) rfl ?_
  refine v_aload_n F dX8_ofRow_0 0 rfl rfl ?_
  refine v_cVVF F cs_RX8_168 dX8_ofRow_1 0 (ci := 8) rfl rfl (m_X8_lowers lau G ad T n mo Hs Xt Tw Qs Ks Lo Wi (by omega)) (by decide) rfl rfl (Nat.le_of_ble_eq_true rfl) ⟨Nat.zero_le _, Nat.zero_le _⟩ (fun u2 w3 => ?_)
  refine v_iconst (v := (-1)) F dX8_ofRow_4 (by decide) ?_
  refine v_istore_n (lv' := [(3, .int (-1)), (0, .ref (ad 0)), (1, .int (nI r_)), (2, .int (nI wj))]) F dX8_ofRow_5 3 rfl (by decide) rfl ?_
  refine v_iconst (v := nI 0) F dX8_ofRow_6 (by decide) ?_
  refine v_istore (lv' := [(4, .int (nI 0)), (3, .int (-1)), (0, .ref (ad 0)), (1, .int (nI r_)), (2, .int (nI wj))]) F dX8_ofRow_7 (by decide) rfl ?_
  refine v_iconst (v := (-1)) F dX8_ofRow_9 (by decide) ?_
  refine v_istore (lv' := [(5, .int (-1)), (4, .int (nI 0)), (3, .int (-1)), (0, .ref (ad 0)), (1, .int (nI r_)), (2, .int (nI wj))]) F dX8_ofRow_10 (by decide) rfl ?_
  refine v_iconst (v := nI 0) F dX8_ofRow_12 (by decide) ?_
  refine v_istore (lv' := [(6, .int (nI 0)), (5, .int (-1)), (4, .int (nI 0)), (3, .int (-1)), (0, .ref (ad 0)), (1, .int (nI r_)), (2, .int (nI wj))]) F dX8_ofRow_13 (by decide) rfl ?_
  have L15 : ∀ (k_ : Nat) (x : Nat) (nv : Int32) (f : Nat) (fd : Int32), 65 - x < k_ → (x ≤ 65) → (RWI T n mo r_ wj x nv f fd) → V p lau e (RM 5) s m args below meth c 8 G A Q (wM ad G (snp T n mo) Hs Xt Tw Qs Ks u2 Wi) 0 0 15 [(6, .int (nI x)), (5, .int fd), (4, .int (nI f)), (3, .int nv), (0, .ref (ad 0)), (1, .int (nI r_)), (2, .int (nI wj))] [] := by
    intro k_
    induction k_ with
    | zero => exact fun x nv f fd hk_ hx hI => absurd hk_ (Nat.not_lt_zero _)
    | succ k_ ih15 =>
      intro x nv f fd hk_15 hx hI
      refine v_iload F dX8_ofRow_15 rfl ?_
      refine v_bipush (v := nI 64) F dX8_ofRow_17 (by decide) ?_
      refine v_icmp_gt F 139 dX8_ofRow_19 (by decide) (fun c4 => ?_) (fun c4 => ?_)
      · replace c4 := nT (a := x) (b := 64) (by omega) (by decide) c4
        refine v_iload_n F dX8_ofRow_139 2 rfl rfl ?_
        refine v_iconst (v := nI 3) F dX8_ofRow_140 (by decide) ?_
        refine v_icmp_ne F 148 dX8_ofRow_141 (by decide) (fun h141 => ?_) (fun h141 => ?_)
        · replace h141 := nEn (a := wj) (b := 3) (by omega) (by decide) h141
          refine v_iload F dX8_ofRow_148 rfl ?_
          exact v_iret F hr hlk hQ dX8_ofRow_150 (u2) rfl (by first | exact rwi_e3 hI (by omega) h141 | exact rwi_e hI (by omega) h141 hw)
        · replace h141 := nE (a := wj) (b := 3) (by omega) (by decide) h141
          refine v_iload_n F dX8_ofRow_144 3 rfl rfl ?_
          refine v_goto F 150 dX8_ofRow_145 (by decide) ?_
          exact v_iret F hr hlk hQ dX8_ofRow_150 (u2) rfl (by first | exact rwi_e3 hI (by omega) h141 | exact rwi_e hI (by omega) h141 hw)
      · replace c4 := nTn (a := x) (b := 64) (by omega) (by decide) c4
        have hJ := rwi_le hI (by omega)
        have hf64 := hJ.2.1
        refine v_iload F dX8_ofRow_22 rfl ?_
        refine v_bipush (v := nI 64) F dX8_ofRow_24 (by decide) ?_
        refine v_icmp_eq F 53 dX8_ofRow_26 (by decide) (fun h26 => ?_) (fun h26 => ?_)
        · replace h26 := nE (a := x) (b := 64) (by omega) (by decide) h26
          refine v_iconst (v := nI 1) F dX8_ofRow_53 (by decide) ?_
          refine v_goto F 58 dX8_ofRow_54 (by decide) ?_
          refine v_istore (lv' := [(7, .int (nI 1)), (6, .int (nI x)), (5, .int fd), (4, .int (nI f)), (3, .int nv), (0, .ref (ad 0)), (1, .int (nI r_)), (2, .int (nI wj))]) F dX8_ofRow_58 (by decide) rfl ?_
          refine v_iload F dX8_ofRow_60 rfl ?_
          refine v_if_eq F 106 dX8_ofRow_62 (by decide) (fun h => absurd h (by decide)) (fun _ => ?_)
          refine v_iload_n F dX8_ofRow_65 3 rfl rfl ?_
          refine v_iload_n F dX8_ofRow_66 1 rfl rfl ?_
          refine v_icmp_ne F 106 dX8_ofRow_67 (by decide) (fun h67 => ?_) (fun h67 => ?_)
          · refine v_iload_n F dX8_ofRow_106 3 rfl rfl ?_
            refine v_iload F dX8_ofRow_107 rfl ?_
            refine v_if_eq F 116 dX8_ofRow_109 (by decide) (fun h => absurd h (by decide)) (fun _ => ?_)
            refine v_iconst (v := nI 1) F dX8_ofRow_112 (by decide) ?_
            refine v_goto F 117 dX8_ofRow_113 (by decide) ?_
            refine v_iadd F dX8_ofRow_117 ?_
            refine v_istore_n (lv' := [(3, .int (nv + nI 1)), (7, .int (nI 1)), (6, .int (nI x)), (5, .int fd), (4, .int (nI f)), (0, .ref (ad 0)), (1, .int (nI r_)), (2, .int (nI wj))]) F dX8_ofRow_118 3 rfl (by decide) rfl ?_
            refine v_iload F dX8_ofRow_119 rfl ?_
            refine v_if_eq F 129 dX8_ofRow_121 (by decide) (fun h => absurd h (by decide)) (fun _ => ?_)
            refine v_iload F dX8_ofRow_124 rfl ?_
            refine v_goto F 131 dX8_ofRow_126 (by decide) ?_
            refine v_istore (lv' := [(4, .int (nI x)), (3, .int (nv + nI 1)), (7, .int (nI 1)), (6, .int (nI x)), (5, .int fd), (0, .ref (ad 0)), (1, .int (nI r_)), (2, .int (nI wj))]) F dX8_ofRow_131 (by decide) rfl ?_
            refine v_iinc (lv' := [(6, .int (nI (x + 1))), (4, .int (nI x)), (3, .int (nv + nI 1)), (7, .int (nI 1)), (5, .int fd), (0, .ref (ad 0)), (1, .int (nI r_)), (2, .int (nI wj))]) F (nI (x + 1)) dX8_ofRow_133 rfl (nI_add x 1) (by decide) rfl ?_
            refine v_goto F 15 dX8_ofRow_136 (by decide) ?_
            refine v_st (w' := wM ad G (snp T n mo) Hs Xt Tw Qs Ks u2 Wi) (pc' := 15) (st' := []) rfl rfl rfl [0, 4, 1, 2, 5, 6, 7] (lv' := [(6, .int (nI (x + 1))), (5, .int fd), (4, .int (nI x)), (3, .int (nv + nI 1)), (0, .ref (ad 0)), (1, .int (nI r_)), (2, .int (nI wj))]) rfl ?_
            exact ih15 (x + 1) (nv + nI 1) x fd (by omega) (by omega) (by first | exact rwi_n hJ (by omega) h26 h31 h50 | exact rwi_b0 hJ (by omega) hrr (Or.inl h26) (Or.inl h67) | exact rwi_w0 hJ (by omega) hrr (Or.inl h26) h67 h76 | exact rwi_w1 hJ (by omega) hrr (Or.inl h26) h67 h86 | exact rwi_w2 hJ (by omega) hrr (Or.inl h26) h67 h76 h86 h72 | exact rwi_b0 hJ (by omega) hrr (Or.inl h26) (Or.inr (Nat.not_lt.mpr h72)) | exact rwi_b0 hJ (by omega) hrr (Or.inr (Or.inl h31)) (Or.inl h67) | exact rwi_w0 hJ (by omega) hrr (Or.inr (Or.inl h31)) h67 h76 | exact rwi_w1 hJ (by omega) hrr (Or.inr (Or.inl h31)) h67 h86 | exact rwi_w2 hJ (by omega) hrr (Or.inr (Or.inl h31)) h67 h76 h86 h72 | exact rwi_b0 hJ (by omega) hrr (Or.inr (Or.inl h31)) (Or.inr (Nat.not_lt.mpr h72)) | exact rwi_b0 hJ (by omega) hrr (Or.inr (Or.inr h50)) (Or.inl h67) | exact rwi_w0 hJ (by omega) hrr (Or.inr (Or.inr h50)) h67 h76 | exact rwi_w1 hJ (by omega) hrr (Or.inr (Or.inr h50)) h67 h86 | exact rwi_w2 hJ (by omega) hrr (Or.inr (Or.inr h50)) h67 h76 h86 h72 | exact rwi_b0 hJ (by omega) hrr (Or.inr (Or.inr h50)) (Or.inr (Nat.not_lt.mpr h72)))
          · refine v_iload_n F dX8_ofRow_70 2 rfl rfl ?_
            refine v_iconst (v := nI 3) F dX8_ofRow_71 (by decide) ?_
            refine v_icmp_ge F 106 dX8_ofRow_72 (by decide) (fun h72 => ?_) (fun h72 => ?_)
            · replace h72 := nG (a := wj) (b := 3) (by omega) (by decide) h72
              refine v_iload_n F dX8_ofRow_106 3 rfl rfl ?_
              refine v_iload F dX8_ofRow_107 rfl ?_
              refine v_if_eq F 116 dX8_ofRow_109 (by decide) (fun h => absurd h (by decide)) (fun _ => ?_)
              refine v_iconst (v := nI 1) F dX8_ofRow_112 (by decide) ?_
              refine v_goto F 117 dX8_ofRow_113 (by decide) ?_
              refine v_iadd F dX8_ofRow_117 ?_
              refine v_istore_n (lv' := [(3, .int (nv + nI 1)), (7, .int (nI 1)), (6, .int (nI x)), (5, .int fd), (4, .int (nI f)), (0, .ref (ad 0)), (1, .int (nI r_)), (2, .int (nI wj))]) F dX8_ofRow_118 3 rfl (by decide) rfl ?_
              refine v_iload F dX8_ofRow_119 rfl ?_
              refine v_if_eq F 129 dX8_ofRow_121 (by decide) (fun h => absurd h (by decide)) (fun _ => ?_)
              refine v_iload F dX8_ofRow_124 rfl ?_
              refine v_goto F 131 dX8_ofRow_126 (by decide) ?_
              refine v_istore (lv' := [(4, .int (nI x)), (3, .int (nv + nI 1)), (7, .int (nI 1)), (6, .int (nI x)), (5, .int fd), (0, .ref (ad 0)), (1, .int (nI r_)), (2, .int (nI wj))]) F dX8_ofRow_131 (by decide) rfl ?_
              refine v_iinc (lv' := [(6, .int (nI (x + 1))), (4, .int (nI x)), (3, .int (nv + nI 1)), (7, .int (nI 1)), (5, .int fd), (0, .ref (ad 0)), (1, .int (nI r_)), (2, .int (nI wj))]) F (nI (x + 1)) dX8_ofRow_133 rfl (nI_add x 1) (by decide) rfl ?_
              refine v_goto F 15 dX8_ofRow_136 (by decide) ?_
              refine v_st (w' := wM ad G (snp T n mo) Hs Xt Tw Qs Ks u2 Wi) (pc' := 15) (st' := []) rfl rfl rfl [0, 4, 1, 2, 5, 6, 7] (lv' := [(6, .int (nI (x + 1))), (5, .int fd), (4, .int (nI x)), (3, .int (nv + nI 1)), (0, .ref (ad 0)), (1, .int (nI r_)), (2, .int (nI wj))]) rfl ?_
              exact ih15 (x + 1) (nv + nI 1) x fd (by omega) (by omega) (by first | exact rwi_n hJ (by omega) h26 h31 h50 | exact rwi_b0 hJ (by omega) hrr (Or.inl h26) (Or.inl h67) | exact rwi_w0 hJ (by omega) hrr (Or.inl h26) h67 h76 | exact rwi_w1 hJ (by omega) hrr (Or.inl h26) h67 h86 | exact rwi_w2 hJ (by omega) hrr (Or.inl h26) h67 h76 h86 h72 | exact rwi_b0 hJ (by omega) hrr (Or.inl h26) (Or.inr (Nat.not_lt.mpr h72)) | exact rwi_b0 hJ (by omega) hrr (Or.inr (Or.inl h31)) (Or.inl h67) | exact rwi_w0 hJ (by omega) hrr (Or.inr (Or.inl h31)) h67 h76 | exact rwi_w1 hJ (by omega) hrr (Or.inr (Or.inl h31)) h67 h86 | exact rwi_w2 hJ (by omega) hrr (Or.inr (Or.inl h31)) h67 h76 h86 h72 | exact rwi_b0 hJ (by omega) hrr (Or.inr (Or.inl h31)) (Or.inr (Nat.not_lt.mpr h72)) | exact rwi_b0 hJ (by omega) hrr (Or.inr (Or.inr h50)) (Or.inl h67) | exact rwi_w0 hJ (by omega) hrr (Or.inr (Or.inr h50)) h67 h76 | exact rwi_w1 hJ (by omega) hrr (Or.inr (Or.inr h50)) h67 h86 | exact rwi_w2 hJ (by omega) hrr (Or.inr (Or.inr h50)) h67 h76 h86 h72 | exact rwi_b0 hJ (by omega) hrr (Or.inr (Or.inr h50)) (Or.inr (Nat.not_lt.mpr h72)))
            · replace h72 := nGn (a := wj) (b := 3) (by omega) (by decide) h72
              refine v_iload_n F dX8_ofRow_75 2 rfl rfl ?_
              refine v_if_ne F 84 dX8_ofRow_76 (by decide) (fun h76 => ?_) (fun h76 => ?_)
              · replace h76 := nEn (a := wj) (b := 0) (by omega) (by decide) h76
                refine v_iload_n F dX8_ofRow_84 2 rfl rfl ?_
                refine v_iconst (v := nI 1) F dX8_ofRow_85 (by decide) ?_
                refine v_icmp_ne F 97 dX8_ofRow_86 (by decide) (fun h86 => ?_) (fun h86 => ?_)
                · replace h86 := nEn (a := wj) (b := 1) (by omega) (by decide) h86
                  refine v_aload_n F dX8_ofRow_97 0 rfl rfl ?_
                  refine v_get (v := .ref (ad 7)) F inlX8 (ci := 8) rfl 13 (by decide) rfl wF_RX8_28 dX8_ofRow_98 0 rfl rfl ?_
                  refine v_iload F dX8_ofRow_101 rfl ?_
                  refine v_ialdN F dX8_ofRow_103 7 rfl f rfl (by omega) (by decide) (u2 f) rfl ?_
                  refine v_topi ((plo T n mo f)) (w3 _ (by omega)) ?_
                  refine v_istore (lv' := [(5, .int (plo T n mo f)), (7, .int (nI 1)), (6, .int (nI x)), (4, .int (nI f)), (3, .int nv), (0, .ref (ad 0)), (1, .int (nI r_)), (2, .int (nI wj))]) F dX8_ofRow_104 (by decide) rfl ?_
                  refine v_iload_n F dX8_ofRow_106 3 rfl rfl ?_
                  refine v_iload F dX8_ofRow_107 rfl ?_
                  refine v_if_eq F 116 dX8_ofRow_109 (by decide) (fun h => absurd h (by decide)) (fun _ => ?_)
                  refine v_iconst (v := nI 1) F dX8_ofRow_112 (by decide) ?_
                  refine v_goto F 117 dX8_ofRow_113 (by decide) ?_
                  refine v_iadd F dX8_ofRow_117 ?_
                  refine v_istore_n (lv' := [(3, .int (nv + nI 1)), (5, .int (plo T n mo f)), (7, .int (nI 1)), (6, .int (nI x)), (4, .int (nI f)), (0, .ref (ad 0)), (1, .int (nI r_)), (2, .int (nI wj))]) F dX8_ofRow_118 3 rfl (by decide) rfl ?_
                  refine v_iload F dX8_ofRow_119 rfl ?_
                  refine v_if_eq F 129 dX8_ofRow_121 (by decide) (fun h => absurd h (by decide)) (fun _ => ?_)
                  refine v_iload F dX8_ofRow_124 rfl ?_
                  refine v_goto F 131 dX8_ofRow_126 (by decide) ?_
                  refine v_istore (lv' := [(4, .int (nI x)), (3, .int (nv + nI 1)), (5, .int (plo T n mo f)), (7, .int (nI 1)), (6, .int (nI x)), (0, .ref (ad 0)), (1, .int (nI r_)), (2, .int (nI wj))]) F dX8_ofRow_131 (by decide) rfl ?_
                  refine v_iinc (lv' := [(6, .int (nI (x + 1))), (4, .int (nI x)), (3, .int (nv + nI 1)), (5, .int (plo T n mo f)), (7, .int (nI 1)), (0, .ref (ad 0)), (1, .int (nI r_)), (2, .int (nI wj))]) F (nI (x + 1)) dX8_ofRow_133 rfl (nI_add x 1) (by decide) rfl ?_
                  refine v_goto F 15 dX8_ofRow_136 (by decide) ?_
                  refine v_st (w' := wM ad G (snp T n mo) Hs Xt Tw Qs Ks u2 Wi) (pc' := 15) (st' := []) rfl rfl rfl [0, 3, 1, 2, 5, 6, 7] (lv' := [(6, .int (nI (x + 1))), (5, .int (plo T n mo f)), (4, .int (nI x)), (3, .int (nv + nI 1)), (0, .ref (ad 0)), (1, .int (nI r_)), (2, .int (nI wj))]) rfl ?_
                  exact ih15 (x + 1) (nv + nI 1) x (plo T n mo f) (by omega) (by omega) (by first | exact rwi_n hJ (by omega) h26 h31 h50 | exact rwi_b0 hJ (by omega) hrr (Or.inl h26) (Or.inl h67) | exact rwi_w0 hJ (by omega) hrr (Or.inl h26) h67 h76 | exact rwi_w1 hJ (by omega) hrr (Or.inl h26) h67 h86 | exact rwi_w2 hJ (by omega) hrr (Or.inl h26) h67 h76 h86 h72 | exact rwi_b0 hJ (by omega) hrr (Or.inl h26) (Or.inr (Nat.not_lt.mpr h72)) | exact rwi_b0 hJ (by omega) hrr (Or.inr (Or.inl h31)) (Or.inl h67) | exact rwi_w0 hJ (by omega) hrr (Or.inr (Or.inl h31)) h67 h76 | exact rwi_w1 hJ (by omega) hrr (Or.inr (Or.inl h31)) h67 h86 | exact rwi_w2 hJ (by omega) hrr (Or.inr (Or.inl h31)) h67 h76 h86 h72 | exact rwi_b0 hJ (by omega) hrr (Or.inr (Or.inl h31)) (Or.inr (Nat.not_lt.mpr h72)) | exact rwi_b0 hJ (by omega) hrr (Or.inr (Or.inr h50)) (Or.inl h67) | exact rwi_w0 hJ (by omega) hrr (Or.inr (Or.inr h50)) h67 h76 | exact rwi_w1 hJ (by omega) hrr (Or.inr (Or.inr h50)) h67 h86 | exact rwi_w2 hJ (by omega) hrr (Or.inr (Or.inr h50)) h67 h76 h86 h72 | exact rwi_b0 hJ (by omega) hrr (Or.inr (Or.inr h50)) (Or.inr (Nat.not_lt.mpr h72)))
                · replace h86 := nE (a := wj) (b := 1) (by omega) (by decide) h86
                  refine v_iload F dX8_ofRow_89 rfl ?_
                  refine v_iload F dX8_ofRow_91 rfl ?_
                  refine v_isub F dX8_ofRow_93 ?_
                  refine v_goto F 104 dX8_ofRow_94 (by decide) ?_
                  refine v_istore (lv' := [(5, .int (nI x - nI f)), (7, .int (nI 1)), (6, .int (nI x)), (4, .int (nI f)), (3, .int nv), (0, .ref (ad 0)), (1, .int (nI r_)), (2, .int (nI wj))]) F dX8_ofRow_104 (by decide) rfl ?_
                  refine v_iload_n F dX8_ofRow_106 3 rfl rfl ?_
                  refine v_iload F dX8_ofRow_107 rfl ?_
                  refine v_if_eq F 116 dX8_ofRow_109 (by decide) (fun h => absurd h (by decide)) (fun _ => ?_)
                  refine v_iconst (v := nI 1) F dX8_ofRow_112 (by decide) ?_
                  refine v_goto F 117 dX8_ofRow_113 (by decide) ?_
                  refine v_iadd F dX8_ofRow_117 ?_
                  refine v_istore_n (lv' := [(3, .int (nv + nI 1)), (5, .int (nI x - nI f)), (7, .int (nI 1)), (6, .int (nI x)), (4, .int (nI f)), (0, .ref (ad 0)), (1, .int (nI r_)), (2, .int (nI wj))]) F dX8_ofRow_118 3 rfl (by decide) rfl ?_
                  refine v_iload F dX8_ofRow_119 rfl ?_
                  refine v_if_eq F 129 dX8_ofRow_121 (by decide) (fun h => absurd h (by decide)) (fun _ => ?_)
                  refine v_iload F dX8_ofRow_124 rfl ?_
                  refine v_goto F 131 dX8_ofRow_126 (by decide) ?_
                  refine v_istore (lv' := [(4, .int (nI x)), (3, .int (nv + nI 1)), (5, .int (nI x - nI f)), (7, .int (nI 1)), (6, .int (nI x)), (0, .ref (ad 0)), (1, .int (nI r_)), (2, .int (nI wj))]) F dX8_ofRow_131 (by decide) rfl ?_
                  refine v_iinc (lv' := [(6, .int (nI (x + 1))), (4, .int (nI x)), (3, .int (nv + nI 1)), (5, .int (nI x - nI f)), (7, .int (nI 1)), (0, .ref (ad 0)), (1, .int (nI r_)), (2, .int (nI wj))]) F (nI (x + 1)) dX8_ofRow_133 rfl (nI_add x 1) (by decide) rfl ?_
                  refine v_goto F 15 dX8_ofRow_136 (by decide) ?_
                  refine v_st (w' := wM ad G (snp T n mo) Hs Xt Tw Qs Ks u2 Wi) (pc' := 15) (st' := []) rfl rfl rfl [0, 3, 1, 2, 5, 6, 7] (lv' := [(6, .int (nI (x + 1))), (5, .int (nI x - nI f)), (4, .int (nI x)), (3, .int (nv + nI 1)), (0, .ref (ad 0)), (1, .int (nI r_)), (2, .int (nI wj))]) rfl ?_
                  exact ih15 (x + 1) (nv + nI 1) x (nI x - nI f) (by omega) (by omega) (by first | exact rwi_n hJ (by omega) h26 h31 h50 | exact rwi_b0 hJ (by omega) hrr (Or.inl h26) (Or.inl h67) | exact rwi_w0 hJ (by omega) hrr (Or.inl h26) h67 h76 | exact rwi_w1 hJ (by omega) hrr (Or.inl h26) h67 h86 | exact rwi_w2 hJ (by omega) hrr (Or.inl h26) h67 h76 h86 h72 | exact rwi_b0 hJ (by omega) hrr (Or.inl h26) (Or.inr (Nat.not_lt.mpr h72)) | exact rwi_b0 hJ (by omega) hrr (Or.inr (Or.inl h31)) (Or.inl h67) | exact rwi_w0 hJ (by omega) hrr (Or.inr (Or.inl h31)) h67 h76 | exact rwi_w1 hJ (by omega) hrr (Or.inr (Or.inl h31)) h67 h86 | exact rwi_w2 hJ (by omega) hrr (Or.inr (Or.inl h31)) h67 h76 h86 h72 | exact rwi_b0 hJ (by omega) hrr (Or.inr (Or.inl h31)) (Or.inr (Nat.not_lt.mpr h72)) | exact rwi_b0 hJ (by omega) hrr (Or.inr (Or.inr h50)) (Or.inl h67) | exact rwi_w0 hJ (by omega) hrr (Or.inr (Or.inr h50)) h67 h76 | exact rwi_w1 hJ (by omega) hrr (Or.inr (Or.inr h50)) h67 h86 | exact rwi_w2 hJ (by omega) hrr (Or.inr (Or.inr h50)) h67 h76 h86 h72 | exact rwi_b0 hJ (by omega) hrr (Or.inr (Or.inr h50)) (Or.inr (Nat.not_lt.mpr h72)))
              · replace h76 := nE (a := wj) (b := 0) (by omega) (by decide) h76
                refine v_iload F dX8_ofRow_79 rfl ?_
                refine v_goto F 104 dX8_ofRow_81 (by decide) ?_
                refine v_istore (lv' := [(5, .int (nI f)), (7, .int (nI 1)), (6, .int (nI x)), (4, .int (nI f)), (3, .int nv), (0, .ref (ad 0)), (1, .int (nI r_)), (2, .int (nI wj))]) F dX8_ofRow_104 (by decide) rfl ?_
                refine v_iload_n F dX8_ofRow_106 3 rfl rfl ?_
                refine v_iload F dX8_ofRow_107 rfl ?_
                refine v_if_eq F 116 dX8_ofRow_109 (by decide) (fun h => absurd h (by decide)) (fun _ => ?_)
                refine v_iconst (v := nI 1) F dX8_ofRow_112 (by decide) ?_
                refine v_goto F 117 dX8_ofRow_113 (by decide) ?_
                refine v_iadd F dX8_ofRow_117 ?_
                refine v_istore_n (lv' := [(3, .int (nv + nI 1)), (5, .int (nI f)), (7, .int (nI 1)), (6, .int (nI x)), (4, .int (nI f)), (0, .ref (ad 0)), (1, .int (nI r_)), (2, .int (nI wj))]) F dX8_ofRow_118 3 rfl (by decide) rfl ?_
                refine v_iload F dX8_ofRow_119 rfl ?_
                refine v_if_eq F 129 dX8_ofRow_121 (by decide) (fun h => absurd h (by decide)) (fun _ => ?_)
                refine v_iload F dX8_ofRow_124 rfl ?_
                refine v_goto F 131 dX8_ofRow_126 (by decide) ?_
                refine v_istore (lv' := [(4, .int (nI x)), (3, .int (nv + nI 1)), (5, .int (nI f)), (7, .int (nI 1)), (6, .int (nI x)), (0, .ref (ad 0)), (1, .int (nI r_)), (2, .int (nI wj))]) F dX8_ofRow_131 (by decide) rfl ?_
                refine v_iinc (lv' := [(6, .int (nI (x + 1))), (4, .int (nI x)), (3, .int (nv + nI 1)), (5, .int (nI f)), (7, .int (nI 1)), (0, .ref (ad 0)), (1, .int (nI r_)), (2, .int (nI wj))]) F (nI (x + 1)) dX8_ofRow_133 rfl (nI_add x 1) (by decide) rfl ?_
                refine v_goto F 15 dX8_ofRow_136 (by decide) ?_
                refine v_st (w' := wM ad G (snp T n mo) Hs Xt Tw Qs Ks u2 Wi) (pc' := 15) (st' := []) rfl rfl rfl [0, 3, 1, 2, 5, 6, 7] (lv' := [(6, .int (nI (x + 1))), (5, .int (nI f)), (4, .int (nI x)), (3, .int (nv + nI 1)), (0, .ref (ad 0)), (1, .int (nI r_)), (2, .int (nI wj))]) rfl ?_
                exact ih15 (x + 1) (nv + nI 1) x (nI f) (by omega) (by omega) (by first | exact rwi_n hJ (by omega) h26 h31 h50 | exact rwi_b0 hJ (by omega) hrr (Or.inl h26) (Or.inl h67) | exact rwi_w0 hJ (by omega) hrr (Or.inl h26) h67 h76 | exact rwi_w1 hJ (by omega) hrr (Or.inl h26) h67 h86 | exact rwi_w2 hJ (by omega) hrr (Or.inl h26) h67 h76 h86 h72 | exact rwi_b0 hJ (by omega) hrr (Or.inl h26) (Or.inr (Nat.not_lt.mpr h72)) | exact rwi_b0 hJ (by omega) hrr (Or.inr (Or.inl h31)) (Or.inl h67) | exact rwi_w0 hJ (by omega) hrr (Or.inr (Or.inl h31)) h67 h76 | exact rwi_w1 hJ (by omega) hrr (Or.inr (Or.inl h31)) h67 h86 | exact rwi_w2 hJ (by omega) hrr (Or.inr (Or.inl h31)) h67 h76 h86 h72 | exact rwi_b0 hJ (by omega) hrr (Or.inr (Or.inl h31)) (Or.inr (Nat.not_lt.mpr h72)) | exact rwi_b0 hJ (by omega) hrr (Or.inr (Or.inr h50)) (Or.inl h67) | exact rwi_w0 hJ (by omega) hrr (Or.inr (Or.inr h50)) h67 h76 | exact rwi_w1 hJ (by omega) hrr (Or.inr (Or.inr h50)) h67 h86 | exact rwi_w2 hJ (by omega) hrr (Or.inr (Or.inr h50)) h67 h76 h86 h72 | exact rwi_b0 hJ (by omega) hrr (Or.inr (Or.inr h50)) (Or.inr (Nat.not_lt.mpr h72)))
        · replace h26 := nEn (a := x) (b := 64) (by omega) (by decide) h26
          refine v_iload F dX8_ofRow_29 rfl ?_
          refine v_if_eq F 53 dX8_ofRow_31 (by decide) (fun h31 => ?_) (fun h31 => ?_)
          · replace h31 := nE (a := x) (b := 0) (by omega) (by decide) h31
            refine v_iconst (v := nI 1) F dX8_ofRow_53 (by decide) ?_
            refine v_goto F 58 dX8_ofRow_54 (by decide) ?_
            refine v_istore (lv' := [(7, .int (nI 1)), (6, .int (nI x)), (5, .int fd), (4, .int (nI f)), (3, .int nv), (0, .ref (ad 0)), (1, .int (nI r_)), (2, .int (nI wj))]) F dX8_ofRow_58 (by decide) rfl ?_
            refine v_iload F dX8_ofRow_60 rfl ?_
            refine v_if_eq F 106 dX8_ofRow_62 (by decide) (fun h => absurd h (by decide)) (fun _ => ?_)
            refine v_iload_n F dX8_ofRow_65 3 rfl rfl ?_
            refine v_iload_n F dX8_ofRow_66 1 rfl rfl ?_
            refine v_icmp_ne F 106 dX8_ofRow_67 (by decide) (fun h67 => ?_) (fun h67 => ?_)
            · refine v_iload_n F dX8_ofRow_106 3 rfl rfl ?_
              refine v_iload F dX8_ofRow_107 rfl ?_
              refine v_if_eq F 116 dX8_ofRow_109 (by decide) (fun h => absurd h (by decide)) (fun _ => ?_)
              refine v_iconst (v := nI 1) F dX8_ofRow_112 (by decide) ?_
              refine v_goto F 117 dX8_ofRow_113 (by decide) ?_
              refine v_iadd F dX8_ofRow_117 ?_
              refine v_istore_n (lv' := [(3, .int (nv + nI 1)), (7, .int (nI 1)), (6, .int (nI x)), (5, .int fd), (4, .int (nI f)), (0, .ref (ad 0)), (1, .int (nI r_)), (2, .int (nI wj))]) F dX8_ofRow_118 3 rfl (by decide) rfl ?_
              refine v_iload F dX8_ofRow_119 rfl ?_
              refine v_if_eq F 129 dX8_ofRow_121 (by decide) (fun h => absurd h (by decide)) (fun _ => ?_)
              refine v_iload F dX8_ofRow_124 rfl ?_
              refine v_goto F 131 dX8_ofRow_126 (by decide) ?_
              refine v_istore (lv' := [(4, .int (nI x)), (3, .int (nv + nI 1)), (7, .int (nI 1)), (6, .int (nI x)), (5, .int fd), (0, .ref (ad 0)), (1, .int (nI r_)), (2, .int (nI wj))]) F dX8_ofRow_131 (by decide) rfl ?_
              refine v_iinc (lv' := [(6, .int (nI (x + 1))), (4, .int (nI x)), (3, .int (nv + nI 1)), (7, .int (nI 1)), (5, .int fd), (0, .ref (ad 0)), (1, .int (nI r_)), (2, .int (nI wj))]) F (nI (x + 1)) dX8_ofRow_133 rfl (nI_add x 1) (by decide) rfl ?_
              refine v_goto F 15 dX8_ofRow_136 (by decide) ?_
              refine v_st (w' := wM ad G (snp T n mo) Hs Xt Tw Qs Ks u2 Wi) (pc' := 15) (st' := []) rfl rfl rfl [0, 4, 1, 2, 5, 6, 7] (lv' := [(6, .int (nI (x + 1))), (5, .int fd), (4, .int (nI x)), (3, .int (nv + nI 1)), (0, .ref (ad 0)), (1, .int (nI r_)), (2, .int (nI wj))]) rfl ?_
              exact ih15 (x + 1) (nv + nI 1) x fd (by omega) (by omega) (by first | exact rwi_n hJ (by omega) h26 h31 h50 | exact rwi_b0 hJ (by omega) hrr (Or.inl h26) (Or.inl h67) | exact rwi_w0 hJ (by omega) hrr (Or.inl h26) h67 h76 | exact rwi_w1 hJ (by omega) hrr (Or.inl h26) h67 h86 | exact rwi_w2 hJ (by omega) hrr (Or.inl h26) h67 h76 h86 h72 | exact rwi_b0 hJ (by omega) hrr (Or.inl h26) (Or.inr (Nat.not_lt.mpr h72)) | exact rwi_b0 hJ (by omega) hrr (Or.inr (Or.inl h31)) (Or.inl h67) | exact rwi_w0 hJ (by omega) hrr (Or.inr (Or.inl h31)) h67 h76 | exact rwi_w1 hJ (by omega) hrr (Or.inr (Or.inl h31)) h67 h86 | exact rwi_w2 hJ (by omega) hrr (Or.inr (Or.inl h31)) h67 h76 h86 h72 | exact rwi_b0 hJ (by omega) hrr (Or.inr (Or.inl h31)) (Or.inr (Nat.not_lt.mpr h72)) | exact rwi_b0 hJ (by omega) hrr (Or.inr (Or.inr h50)) (Or.inl h67) | exact rwi_w0 hJ (by omega) hrr (Or.inr (Or.inr h50)) h67 h76 | exact rwi_w1 hJ (by omega) hrr (Or.inr (Or.inr h50)) h67 h86 | exact rwi_w2 hJ (by omega) hrr (Or.inr (Or.inr h50)) h67 h76 h86 h72 | exact rwi_b0 hJ (by omega) hrr (Or.inr (Or.inr h50)) (Or.inr (Nat.not_lt.mpr h72)))
            · refine v_iload_n F dX8_ofRow_70 2 rfl rfl ?_
              refine v_iconst (v := nI 3) F dX8_ofRow_71 (by decide) ?_
              refine v_icmp_ge F 106 dX8_ofRow_72 (by decide) (fun h72 => ?_) (fun h72 => ?_)
              · replace h72 := nG (a := wj) (b := 3) (by omega) (by decide) h72
                refine v_iload_n F dX8_ofRow_106 3 rfl rfl ?_
                refine v_iload F dX8_ofRow_107 rfl ?_
                refine v_if_eq F 116 dX8_ofRow_109 (by decide) (fun h => absurd h (by decide)) (fun _ => ?_)
                refine v_iconst (v := nI 1) F dX8_ofRow_112 (by decide) ?_
                refine v_goto F 117 dX8_ofRow_113 (by decide) ?_
                refine v_iadd F dX8_ofRow_117 ?_
                refine v_istore_n (lv' := [(3, .int (nv + nI 1)), (7, .int (nI 1)), (6, .int (nI x)), (5, .int fd), (4, .int (nI f)), (0, .ref (ad 0)), (1, .int (nI r_)), (2, .int (nI wj))]) F dX8_ofRow_118 3 rfl (by decide) rfl ?_
                refine v_iload F dX8_ofRow_119 rfl ?_
                refine v_if_eq F 129 dX8_ofRow_121 (by decide) (fun h => absurd h (by decide)) (fun _ => ?_)
                refine v_iload F dX8_ofRow_124 rfl ?_
                refine v_goto F 131 dX8_ofRow_126 (by decide) ?_
                refine v_istore (lv' := [(4, .int (nI x)), (3, .int (nv + nI 1)), (7, .int (nI 1)), (6, .int (nI x)), (5, .int fd), (0, .ref (ad 0)), (1, .int (nI r_)), (2, .int (nI wj))]) F dX8_ofRow_131 (by decide) rfl ?_
                refine v_iinc (lv' := [(6, .int (nI (x + 1))), (4, .int (nI x)), (3, .int (nv + nI 1)), (7, .int (nI 1)), (5, .int fd), (0, .ref (ad 0)), (1, .int (nI r_)), (2, .int (nI wj))]) F (nI (x + 1)) dX8_ofRow_133 rfl (nI_add x 1) (by decide) rfl ?_
                refine v_goto F 15 dX8_ofRow_136 (by decide) ?_
                refine v_st (w' := wM ad G (snp T n mo) Hs Xt Tw Qs Ks u2 Wi) (pc' := 15) (st' := []) rfl rfl rfl [0, 4, 1, 2, 5, 6, 7] (lv' := [(6, .int (nI (x + 1))), (5, .int fd), (4, .int (nI x)), (3, .int (nv + nI 1)), (0, .ref (ad 0)), (1, .int (nI r_)), (2, .int (nI wj))]) rfl ?_
                exact ih15 (x + 1) (nv + nI 1) x fd (by omega) (by omega) (by first | exact rwi_n hJ (by omega) h26 h31 h50 | exact rwi_b0 hJ (by omega) hrr (Or.inl h26) (Or.inl h67) | exact rwi_w0 hJ (by omega) hrr (Or.inl h26) h67 h76 | exact rwi_w1 hJ (by omega) hrr (Or.inl h26) h67 h86 | exact rwi_w2 hJ (by omega) hrr (Or.inl h26) h67 h76 h86 h72 | exact rwi_b0 hJ (by omega) hrr (Or.inl h26) (Or.inr (Nat.not_lt.mpr h72)) | exact rwi_b0 hJ (by omega) hrr (Or.inr (Or.inl h31)) (Or.inl h67) | exact rwi_w0 hJ (by omega) hrr (Or.inr (Or.inl h31)) h67 h76 | exact rwi_w1 hJ (by omega) hrr (Or.inr (Or.inl h31)) h67 h86 | exact rwi_w2 hJ (by omega) hrr (Or.inr (Or.inl h31)) h67 h76 h86 h72 | exact rwi_b0 hJ (by omega) hrr (Or.inr (Or.inl h31)) (Or.inr (Nat.not_lt.mpr h72)) | exact rwi_b0 hJ (by omega) hrr (Or.inr (Or.inr h50)) (Or.inl h67) | exact rwi_w0 hJ (by omega) hrr (Or.inr (Or.inr h50)) h67 h76 | exact rwi_w1 hJ (by omega) hrr (Or.inr (Or.inr h50)) h67 h86 | exact rwi_w2 hJ (by omega) hrr (Or.inr (Or.inr h50)) h67 h76 h86 h72 | exact rwi_b0 hJ (by omega) hrr (Or.inr (Or.inr h50)) (Or.inr (Nat.not_lt.mpr h72)))
              · replace h72 := nGn (a := wj) (b := 3) (by omega) (by decide) h72
                refine v_iload_n F dX8_ofRow_75 2 rfl rfl ?_
                refine v_if_ne F 84 dX8_ofRow_76 (by decide) (fun h76 => ?_) (fun h76 => ?_)
                · replace h76 := nEn (a := wj) (b := 0) (by omega) (by decide) h76
                  refine v_iload_n F dX8_ofRow_84 2 rfl rfl ?_
                  refine v_iconst (v := nI 1) F dX8_ofRow_85 (by decide) ?_
                  refine v_icmp_ne F 97 dX8_ofRow_86 (by decide) (fun h86 => ?_) (fun h86 => ?_)
                  · replace h86 := nEn (a := wj) (b := 1) (by omega) (by decide) h86
                    refine v_aload_n F dX8_ofRow_97 0 rfl rfl ?_
                    refine v_get (v := .ref (ad 7)) F inlX8 (ci := 8) rfl 13 (by decide) rfl wF_RX8_28 dX8_ofRow_98 0 rfl rfl ?_
                    refine v_iload F dX8_ofRow_101 rfl ?_
                    refine v_ialdN F dX8_ofRow_103 7 rfl f rfl (by omega) (by decide) (u2 f) rfl ?_
                    refine v_topi ((plo T n mo f)) (w3 _ (by omega)) ?_
                    refine v_istore (lv' := [(5, .int (plo T n mo f)), (7, .int (nI 1)), (6, .int (nI x)), (4, .int (nI f)), (3, .int nv), (0, .ref (ad 0)), (1, .int (nI r_)), (2, .int (nI wj))]) F dX8_ofRow_104 (by decide) rfl ?_
                    refine v_iload_n F dX8_ofRow_106 3 rfl rfl ?_
                    refine v_iload F dX8_ofRow_107 rfl ?_
                    refine v_if_eq F 116 dX8_ofRow_109 (by decide) (fun h => absurd h (by decide)) (fun _ => ?_)
                    refine v_iconst (v := nI 1) F dX8_ofRow_112 (by decide) ?_
                    refine v_goto F 117 dX8_ofRow_113 (by decide) ?_
                    refine v_iadd F dX8_ofRow_117 ?_
                    refine v_istore_n (lv' := [(3, .int (nv + nI 1)), (5, .int (plo T n mo f)), (7, .int (nI 1)), (6, .int (nI x)), (4, .int (nI f)), (0, .ref (ad 0)), (1, .int (nI r_)), (2, .int (nI wj))]) F dX8_ofRow_118 3 rfl (by decide) rfl ?_
                    refine v_iload F dX8_ofRow_119 rfl ?_
                    refine v_if_eq F 129 dX8_ofRow_121 (by decide) (fun h => absurd h (by decide)) (fun _ => ?_)
                    refine v_iload F dX8_ofRow_124 rfl ?_
                    refine v_goto F 131 dX8_ofRow_126 (by decide) ?_
                    refine v_istore (lv' := [(4, .int (nI x)), (3, .int (nv + nI 1)), (5, .int (plo T n mo f)), (7, .int (nI 1)), (6, .int (nI x)), (0, .ref (ad 0)), (1, .int (nI r_)), (2, .int (nI wj))]) F dX8_ofRow_131 (by decide) rfl ?_
                    refine v_iinc (lv' := [(6, .int (nI (x + 1))), (4, .int (nI x)), (3, .int (nv + nI 1)), (5, .int (plo T n mo f)), (7, .int (nI 1)), (0, .ref (ad 0)), (1, .int (nI r_)), (2, .int (nI wj))]) F (nI (x + 1)) dX8_ofRow_133 rfl (nI_add x 1) (by decide) rfl ?_
                    refine v_goto F 15 dX8_ofRow_136 (by decide) ?_
                    refine v_st (w' := wM ad G (snp T n mo) Hs Xt Tw Qs Ks u2 Wi) (pc' := 15) (st' := []) rfl rfl rfl [0, 3, 1, 2, 5, 6, 7] (lv' := [(6, .int (nI (x + 1))), (5, .int (plo T n mo f)), (4, .int (nI x)), (3, .int (nv + nI 1)), (0, .ref (ad 0)), (1, .int (nI r_)), (2, .int (nI wj))]) rfl ?_
                    exact ih15 (x + 1) (nv + nI 1) x (plo T n mo f) (by omega) (by omega) (by first | exact rwi_n hJ (by omega) h26 h31 h50 | exact rwi_b0 hJ (by omega) hrr (Or.inl h26) (Or.inl h67) | exact rwi_w0 hJ (by omega) hrr (Or.inl h26) h67 h76 | exact rwi_w1 hJ (by omega) hrr (Or.inl h26) h67 h86 | exact rwi_w2 hJ (by omega) hrr (Or.inl h26) h67 h76 h86 h72 | exact rwi_b0 hJ (by omega) hrr (Or.inl h26) (Or.inr (Nat.not_lt.mpr h72)) | exact rwi_b0 hJ (by omega) hrr (Or.inr (Or.inl h31)) (Or.inl h67) | exact rwi_w0 hJ (by omega) hrr (Or.inr (Or.inl h31)) h67 h76 | exact rwi_w1 hJ (by omega) hrr (Or.inr (Or.inl h31)) h67 h86 | exact rwi_w2 hJ (by omega) hrr (Or.inr (Or.inl h31)) h67 h76 h86 h72 | exact rwi_b0 hJ (by omega) hrr (Or.inr (Or.inl h31)) (Or.inr (Nat.not_lt.mpr h72)) | exact rwi_b0 hJ (by omega) hrr (Or.inr (Or.inr h50)) (Or.inl h67) | exact rwi_w0 hJ (by omega) hrr (Or.inr (Or.inr h50)) h67 h76 | exact rwi_w1 hJ (by omega) hrr (Or.inr (Or.inr h50)) h67 h86 | exact rwi_w2 hJ (by omega) hrr (Or.inr (Or.inr h50)) h67 h76 h86 h72 | exact rwi_b0 hJ (by omega) hrr (Or.inr (Or.inr h50)) (Or.inr (Nat.not_lt.mpr h72)))
                  · replace h86 := nE (a := wj) (b := 1) (by omega) (by decide) h86
                    refine v_iload F dX8_ofRow_89 rfl ?_
                    refine v_iload F dX8_ofRow_91 rfl ?_
                    refine v_isub F dX8_ofRow_93 ?_
                    refine v_goto F 104 dX8_ofRow_94 (by decide) ?_
                    refine v_istore (lv' := [(5, .int (nI x - nI f)), (7, .int (nI 1)), (6, .int (nI x)), (4, .int (nI f)), (3, .int nv), (0, .ref (ad 0)), (1, .int (nI r_)), (2, .int (nI wj))]) F dX8_ofRow_104 (by decide) rfl ?_
                    refine v_iload_n F dX8_ofRow_106 3 rfl rfl ?_
                    refine v_iload F dX8_ofRow_107 rfl ?_
                    refine v_if_eq F 116 dX8_ofRow_109 (by decide) (fun h => absurd h (by decide)) (fun _ => ?_)
                    refine v_iconst (v := nI 1) F dX8_ofRow_112 (by decide) ?_
                    refine v_goto F 117 dX8_ofRow_113 (by decide) ?_
                    refine v_iadd F dX8_ofRow_117 ?_
                    refine v_istore_n (lv' := [(3, .int (nv + nI 1)), (5, .int (nI x - nI f)), (7, .int (nI 1)), (6, .int (nI x)), (4, .int (nI f)), (0, .ref (ad 0)), (1, .int (nI r_)), (2, .int (nI wj))]) F dX8_ofRow_118 3 rfl (by decide) rfl ?_
                    refine v_iload F dX8_ofRow_119 rfl ?_
                    refine v_if_eq F 129 dX8_ofRow_121 (by decide) (fun h => absurd h (by decide)) (fun _ => ?_)
                    refine v_iload F dX8_ofRow_124 rfl ?_
                    refine v_goto F 131 dX8_ofRow_126 (by decide) ?_
                    refine v_istore (lv' := [(4, .int (nI x)), (3, .int (nv + nI 1)), (5, .int (nI x - nI f)), (7, .int (nI 1)), (6, .int (nI x)), (0, .ref (ad 0)), (1, .int (nI r_)), (2, .int (nI wj))]) F dX8_ofRow_131 (by decide) rfl ?_
                    refine v_iinc (lv' := [(6, .int (nI (x + 1))), (4, .int (nI x)), (3, .int (nv + nI 1)), (5, .int (nI x - nI f)), (7, .int (nI 1)), (0, .ref (ad 0)), (1, .int (nI r_)), (2, .int (nI wj))]) F (nI (x + 1)) dX8_ofRow_133 rfl (nI_add x 1) (by decide) rfl ?_
                    refine v_goto F 15 dX8_ofRow_136 (by decide) ?_
                    refine v_st (w' := wM ad G (snp T n mo) Hs Xt Tw Qs Ks u2 Wi) (pc' := 15) (st' := []) rfl rfl rfl [0, 3, 1, 2, 5, 6, 7] (lv' := [(6, .int (nI (x + 1))), (5, .int (nI x - nI f)), (4, .int (nI x)), (3, .int (nv + nI 1)), (0, .ref (ad 0)), (1, .int (nI r_)), (2, .int (nI wj))]) rfl ?_
                    exact ih15 (x + 1) (nv + nI 1) x (nI x - nI f) (by omega) (by omega) (by first | exact rwi_n hJ (by omega) h26 h31 h50 | exact rwi_b0 hJ (by omega) hrr (Or.inl h26) (Or.inl h67) | exact rwi_w0 hJ (by omega) hrr (Or.inl h26) h67 h76 | exact rwi_w1 hJ (by omega) hrr (Or.inl h26) h67 h86 | exact rwi_w2 hJ (by omega) hrr (Or.inl h26) h67 h76 h86 h72 | exact rwi_b0 hJ (by omega) hrr (Or.inl h26) (Or.inr (Nat.not_lt.mpr h72)) | exact rwi_b0 hJ (by omega) hrr (Or.inr (Or.inl h31)) (Or.inl h67) | exact rwi_w0 hJ (by omega) hrr (Or.inr (Or.inl h31)) h67 h76 | exact rwi_w1 hJ (by omega) hrr (Or.inr (Or.inl h31)) h67 h86 | exact rwi_w2 hJ (by omega) hrr (Or.inr (Or.inl h31)) h67 h76 h86 h72 | exact rwi_b0 hJ (by omega) hrr (Or.inr (Or.inl h31)) (Or.inr (Nat.not_lt.mpr h72)) | exact rwi_b0 hJ (by omega) hrr (Or.inr (Or.inr h50)) (Or.inl h67) | exact rwi_w0 hJ (by omega) hrr (Or.inr (Or.inr h50)) h67 h76 | exact rwi_w1 hJ (by omega) hrr (Or.inr (Or.inr h50)) h67 h86 | exact rwi_w2 hJ (by omega) hrr (Or.inr (Or.inr h50)) h67 h76 h86 h72 | exact rwi_b0 hJ (by omega) hrr (Or.inr (Or.inr h50)) (Or.inr (Nat.not_lt.mpr h72)))
                · replace h76 := nE (a := wj) (b := 0) (by omega) (by decide) h76
                  refine v_iload F dX8_ofRow_79 rfl ?_
                  refine v_goto F 104 dX8_ofRow_81 (by decide) ?_
                  refine v_istore (lv' := [(5, .int (nI f)), (7, .int (nI 1)), (6, .int (nI x)), (4, .int (nI f)), (3, .int nv), (0, .ref (ad 0)), (1, .int (nI r_)), (2, .int (nI wj))]) F dX8_ofRow_104 (by decide) rfl ?_
                  refine v_iload_n F dX8_ofRow_106 3 rfl rfl ?_
                  refine v_iload F dX8_ofRow_107 rfl ?_
                  refine v_if_eq F 116 dX8_ofRow_109 (by decide) (fun h => absurd h (by decide)) (fun _ => ?_)
                  refine v_iconst (v := nI 1) F dX8_ofRow_112 (by decide) ?_
                  refine v_goto F 117 dX8_ofRow_113 (by decide) ?_
                  refine v_iadd F dX8_ofRow_117 ?_
                  refine v_istore_n (lv' := [(3, .int (nv + nI 1)), (5, .int (nI f)), (7, .int (nI 1)), (6, .int (nI x)), (4, .int (nI f)), (0, .ref (ad 0)), (1, .int (nI r_)), (2, .int (nI wj))]) F dX8_ofRow_118 3 rfl (by decide) rfl ?_
                  refine v_iload F dX8_ofRow_119 rfl ?_
                  refine v_if_eq F 129 dX8_ofRow_121 (by decide) (fun h => absurd h (by decide)) (fun _ => ?_)
                  refine v_iload F dX8_ofRow_124 rfl ?_
                  refine v_goto F 131 dX8_ofRow_126 (by decide) ?_
                  refine v_istore (lv' := [(4, .int (nI x)), (3, .int (nv + nI 1)), (5, .int (nI f)), (7, .int (nI 1)), (6, .int (nI x)), (0, .ref (ad 0)), (1, .int (nI r_)), (2, .int (nI wj))]) F dX8_ofRow_131 (by decide) rfl ?_
                  refine v_iinc (lv' := [(6, .int (nI (x + 1))), (4, .int (nI x)), (3, .int (nv + nI 1)), (5, .int (nI f)), (7, .int (nI 1)), (0, .ref (ad 0)), (1, .int (nI r_)), (2, .int (nI wj))]) F (nI (x + 1)) dX8_ofRow_133 rfl (nI_add x 1) (by decide) rfl ?_
                  refine v_goto F 15 dX8_ofRow_136 (by decide) ?_
                  refine v_st (w' := wM ad G (snp T n mo) Hs Xt Tw Qs Ks u2 Wi) (pc' := 15) (st' := []) rfl rfl rfl [0, 3, 1, 2, 5, 6, 7] (lv' := [(6, .int (nI (x + 1))), (5, .int (nI f)), (4, .int (nI x)), (3, .int (nv + nI 1)), (0, .ref (ad 0)), (1, .int (nI r_)), (2, .int (nI wj))]) rfl ?_
                  exact ih15 (x + 1) (nv + nI 1) x (nI f) (by omega) (by omega) (by first | exact rwi_n hJ (by omega) h26 h31 h50 | exact rwi_b0 hJ (by omega) hrr (Or.inl h26) (Or.inl h67) | exact rwi_w0 hJ (by omega) hrr (Or.inl h26) h67 h76 | exact rwi_w1 hJ (by omega) hrr (Or.inl h26) h67 h86 | exact rwi_w2 hJ (by omega) hrr (Or.inl h26) h67 h76 h86 h72 | exact rwi_b0 hJ (by omega) hrr (Or.inl h26) (Or.inr (Nat.not_lt.mpr h72)) | exact rwi_b0 hJ (by omega) hrr (Or.inr (Or.inl h31)) (Or.inl h67) | exact rwi_w0 hJ (by omega) hrr (Or.inr (Or.inl h31)) h67 h76 | exact rwi_w1 hJ (by omega) hrr (Or.inr (Or.inl h31)) h67 h86 | exact rwi_w2 hJ (by omega) hrr (Or.inr (Or.inl h31)) h67 h76 h86 h72 | exact rwi_b0 hJ (by omega) hrr (Or.inr (Or.inl h31)) (Or.inr (Nat.not_lt.mpr h72)) | exact rwi_b0 hJ (by omega) hrr (Or.inr (Or.inr h50)) (Or.inl h67) | exact rwi_w0 hJ (by omega) hrr (Or.inr (Or.inr h50)) h67 h76 | exact rwi_w1 hJ (by omega) hrr (Or.inr (Or.inr h50)) h67 h86 | exact rwi_w2 hJ (by omega) hrr (Or.inr (Or.inr h50)) h67 h76 h86 h72 | exact rwi_b0 hJ (by omega) hrr (Or.inr (Or.inr h50)) (Or.inr (Nat.not_lt.mpr h72)))
          · replace h31 := nEn (a := x) (b := 0) (by omega) (by decide) h31
            refine v_aload_n F dX8_ofRow_34 0 rfl rfl ?_
            refine v_get (v := .ref (ad 7)) F inlX8 (ci := 8) rfl 13 (by decide) rfl wF_RX8_28 dX8_ofRow_35 0 rfl rfl ?_
            refine v_iload F dX8_ofRow_38 rfl ?_
            refine v_ialdN F dX8_ofRow_40 7 rfl x rfl (by omega) (by decide) (u2 x) rfl ?_
            refine v_topi ((plo T n mo x)) (w3 _ (by omega)) ?_
            refine v_aload_n F dX8_ofRow_41 0 rfl rfl ?_
            refine v_get (v := .ref (ad 7)) F inlX8 (ci := 8) rfl 13 (by decide) rfl wF_RX8_28 dX8_ofRow_42 0 rfl rfl ?_
            refine v_iload F dX8_ofRow_45 rfl ?_
            refine v_iconst (v := nI 1) F dX8_ofRow_47 (by decide) ?_
            refine v_isub F dX8_ofRow_48 ?_
            refine v_topi (nI (x - 1)) (pk_sub (by omega)) ?_
            refine v_ialdN F dX8_ofRow_49 7 rfl (x - 1) rfl (by omega) (by decide) (u2 (x - 1)) rfl ?_
            refine v_topi ((plo T n mo (x - 1))) (w3 _ (by omega)) ?_
            refine v_icmp_eq F 57 dX8_ofRow_50 (by decide) (fun h50 => ?_) (fun h50 => ?_)
            · refine v_iconst (v := nI 0) F dX8_ofRow_57 (by decide) ?_
              refine v_istore (lv' := [(7, .int (nI 0)), (6, .int (nI x)), (5, .int fd), (4, .int (nI f)), (3, .int nv), (0, .ref (ad 0)), (1, .int (nI r_)), (2, .int (nI wj))]) F dX8_ofRow_58 (by decide) rfl ?_
              refine v_iload F dX8_ofRow_60 rfl ?_
              refine v_if_eq F 106 dX8_ofRow_62 (by decide) (fun _ => ?_) (fun h => absurd h (by decide))
              refine v_iload_n F dX8_ofRow_106 3 rfl rfl ?_
              refine v_iload F dX8_ofRow_107 rfl ?_
              refine v_if_eq F 116 dX8_ofRow_109 (by decide) (fun _ => ?_) (fun h => absurd h (by decide))
              refine v_iconst (v := nI 0) F dX8_ofRow_116 (by decide) ?_
              refine v_iadd F dX8_ofRow_117 ?_
              refine v_istore_n (lv' := [(3, .int (nv + nI 0)), (7, .int (nI 0)), (6, .int (nI x)), (5, .int fd), (4, .int (nI f)), (0, .ref (ad 0)), (1, .int (nI r_)), (2, .int (nI wj))]) F dX8_ofRow_118 3 rfl (by decide) rfl ?_
              refine v_iload F dX8_ofRow_119 rfl ?_
              refine v_if_eq F 129 dX8_ofRow_121 (by decide) (fun _ => ?_) (fun h => absurd h (by decide))
              refine v_iload F dX8_ofRow_129 rfl ?_
              refine v_istore (lv' := [(4, .int (nI f)), (3, .int (nv + nI 0)), (7, .int (nI 0)), (6, .int (nI x)), (5, .int fd), (0, .ref (ad 0)), (1, .int (nI r_)), (2, .int (nI wj))]) F dX8_ofRow_131 (by decide) rfl ?_
              refine v_iinc (lv' := [(6, .int (nI (x + 1))), (4, .int (nI f)), (3, .int (nv + nI 0)), (7, .int (nI 0)), (5, .int fd), (0, .ref (ad 0)), (1, .int (nI r_)), (2, .int (nI wj))]) F (nI (x + 1)) dX8_ofRow_133 rfl (nI_add x 1) (by decide) rfl ?_
              refine v_goto F 15 dX8_ofRow_136 (by decide) ?_
              refine v_st (w' := wM ad G (snp T n mo) Hs Xt Tw Qs Ks u2 Wi) (pc' := 15) (st' := []) rfl rfl rfl [0, 4, 1, 2, 5, 6, 7] (lv' := [(6, .int (nI (x + 1))), (5, .int fd), (4, .int (nI f)), (3, .int (nv + nI 0)), (0, .ref (ad 0)), (1, .int (nI r_)), (2, .int (nI wj))]) rfl ?_
              exact ih15 (x + 1) (nv + nI 0) f fd (by omega) (by omega) (by first | exact rwi_n hJ (by omega) h26 h31 h50 | exact rwi_b0 hJ (by omega) hrr (Or.inl h26) (Or.inl h67) | exact rwi_w0 hJ (by omega) hrr (Or.inl h26) h67 h76 | exact rwi_w1 hJ (by omega) hrr (Or.inl h26) h67 h86 | exact rwi_w2 hJ (by omega) hrr (Or.inl h26) h67 h76 h86 h72 | exact rwi_b0 hJ (by omega) hrr (Or.inl h26) (Or.inr (Nat.not_lt.mpr h72)) | exact rwi_b0 hJ (by omega) hrr (Or.inr (Or.inl h31)) (Or.inl h67) | exact rwi_w0 hJ (by omega) hrr (Or.inr (Or.inl h31)) h67 h76 | exact rwi_w1 hJ (by omega) hrr (Or.inr (Or.inl h31)) h67 h86 | exact rwi_w2 hJ (by omega) hrr (Or.inr (Or.inl h31)) h67 h76 h86 h72 | exact rwi_b0 hJ (by omega) hrr (Or.inr (Or.inl h31)) (Or.inr (Nat.not_lt.mpr h72)) | exact rwi_b0 hJ (by omega) hrr (Or.inr (Or.inr h50)) (Or.inl h67) | exact rwi_w0 hJ (by omega) hrr (Or.inr (Or.inr h50)) h67 h76 | exact rwi_w1 hJ (by omega) hrr (Or.inr (Or.inr h50)) h67 h86 | exact rwi_w2 hJ (by omega) hrr (Or.inr (Or.inr h50)) h67 h76 h86 h72 | exact rwi_b0 hJ (by omega) hrr (Or.inr (Or.inr h50)) (Or.inr (Nat.not_lt.mpr h72)))
            · refine v_iconst (v := nI 1) F dX8_ofRow_53 (by decide) ?_
              refine v_goto F 58 dX8_ofRow_54 (by decide) ?_
              refine v_istore (lv' := [(7, .int (nI 1)), (6, .int (nI x)), (5, .int fd), (4, .int (nI f)), (3, .int nv), (0, .ref (ad 0)), (1, .int (nI r_)), (2, .int (nI wj))]) F dX8_ofRow_58 (by decide) rfl ?_
              refine v_iload F dX8_ofRow_60 rfl ?_
              refine v_if_eq F 106 dX8_ofRow_62 (by decide) (fun h => absurd h (by decide)) (fun _ => ?_)
              refine v_iload_n F dX8_ofRow_65 3 rfl rfl ?_
              refine v_iload_n F dX8_ofRow_66 1 rfl rfl ?_
              refine v_icmp_ne F 106 dX8_ofRow_67 (by decide) (fun h67 => ?_) (fun h67 => ?_)
              · refine v_iload_n F dX8_ofRow_106 3 rfl rfl ?_
                refine v_iload F dX8_ofRow_107 rfl ?_
                refine v_if_eq F 116 dX8_ofRow_109 (by decide) (fun h => absurd h (by decide)) (fun _ => ?_)
                refine v_iconst (v := nI 1) F dX8_ofRow_112 (by decide) ?_
                refine v_goto F 117 dX8_ofRow_113 (by decide) ?_
                refine v_iadd F dX8_ofRow_117 ?_
                refine v_istore_n (lv' := [(3, .int (nv + nI 1)), (7, .int (nI 1)), (6, .int (nI x)), (5, .int fd), (4, .int (nI f)), (0, .ref (ad 0)), (1, .int (nI r_)), (2, .int (nI wj))]) F dX8_ofRow_118 3 rfl (by decide) rfl ?_
                refine v_iload F dX8_ofRow_119 rfl ?_
                refine v_if_eq F 129 dX8_ofRow_121 (by decide) (fun h => absurd h (by decide)) (fun _ => ?_)
                refine v_iload F dX8_ofRow_124 rfl ?_
                refine v_goto F 131 dX8_ofRow_126 (by decide) ?_
                refine v_istore (lv' := [(4, .int (nI x)), (3, .int (nv + nI 1)), (7, .int (nI 1)), (6, .int (nI x)), (5, .int fd), (0, .ref (ad 0)), (1, .int (nI r_)), (2, .int (nI wj))]) F dX8_ofRow_131 (by decide) rfl ?_
                refine v_iinc (lv' := [(6, .int (nI (x + 1))), (4, .int (nI x)), (3, .int (nv + nI 1)), (7, .int (nI 1)), (5, .int fd), (0, .ref (ad 0)), (1, .int (nI r_)), (2, .int (nI wj))]) F (nI (x + 1)) dX8_ofRow_133 rfl (nI_add x 1) (by decide) rfl ?_
                refine v_goto F 15 dX8_ofRow_136 (by decide) ?_
                refine v_st (w' := wM ad G (snp T n mo) Hs Xt Tw Qs Ks u2 Wi) (pc' := 15) (st' := []) rfl rfl rfl [0, 4, 1, 2, 5, 6, 7] (lv' := [(6, .int (nI (x + 1))), (5, .int fd), (4, .int (nI x)), (3, .int (nv + nI 1)), (0, .ref (ad 0)), (1, .int (nI r_)), (2, .int (nI wj))]) rfl ?_
                exact ih15 (x + 1) (nv + nI 1) x fd (by omega) (by omega) (by first | exact rwi_n hJ (by omega) h26 h31 h50 | exact rwi_b0 hJ (by omega) hrr (Or.inl h26) (Or.inl h67) | exact rwi_w0 hJ (by omega) hrr (Or.inl h26) h67 h76 | exact rwi_w1 hJ (by omega) hrr (Or.inl h26) h67 h86 | exact rwi_w2 hJ (by omega) hrr (Or.inl h26) h67 h76 h86 h72 | exact rwi_b0 hJ (by omega) hrr (Or.inl h26) (Or.inr (Nat.not_lt.mpr h72)) | exact rwi_b0 hJ (by omega) hrr (Or.inr (Or.inl h31)) (Or.inl h67) | exact rwi_w0 hJ (by omega) hrr (Or.inr (Or.inl h31)) h67 h76 | exact rwi_w1 hJ (by omega) hrr (Or.inr (Or.inl h31)) h67 h86 | exact rwi_w2 hJ (by omega) hrr (Or.inr (Or.inl h31)) h67 h76 h86 h72 | exact rwi_b0 hJ (by omega) hrr (Or.inr (Or.inl h31)) (Or.inr (Nat.not_lt.mpr h72)) | exact rwi_b0 hJ (by omega) hrr (Or.inr (Or.inr h50)) (Or.inl h67) | exact rwi_w0 hJ (by omega) hrr (Or.inr (Or.inr h50)) h67 h76 | exact rwi_w1 hJ (by omega) hrr (Or.inr (Or.inr h50)) h67 h86 | exact rwi_w2 hJ (by omega) hrr (Or.inr (Or.inr h50)) h67 h76 h86 h72 | exact rwi_b0 hJ (by omega) hrr (Or.inr (Or.inr h50)) (Or.inr (Nat.not_lt.mpr h72)))
              · refine v_iload_n F dX8_ofRow_70 2 rfl rfl ?_
                refine v_iconst (v := nI 3) F dX8_ofRow_71 (by decide) ?_
                refine v_icmp_ge F 106 dX8_ofRow_72 (by decide) (fun h72 => ?_) (fun h72 => ?_)
                · replace h72 := nG (a := wj) (b := 3) (by omega) (by decide) h72
                  refine v_iload_n F dX8_ofRow_106 3 rfl rfl ?_
                  refine v_iload F dX8_ofRow_107 rfl ?_
                  refine v_if_eq F 116 dX8_ofRow_109 (by decide) (fun h => absurd h (by decide)) (fun _ => ?_)
                  refine v_iconst (v := nI 1) F dX8_ofRow_112 (by decide) ?_
                  refine v_goto F 117 dX8_ofRow_113 (by decide) ?_
                  refine v_iadd F dX8_ofRow_117 ?_
                  refine v_istore_n (lv' := [(3, .int (nv + nI 1)), (7, .int (nI 1)), (6, .int (nI x)), (5, .int fd), (4, .int (nI f)), (0, .ref (ad 0)), (1, .int (nI r_)), (2, .int (nI wj))]) F dX8_ofRow_118 3 rfl (by decide) rfl ?_
                  refine v_iload F dX8_ofRow_119 rfl ?_
                  refine v_if_eq F 129 dX8_ofRow_121 (by decide) (fun h => absurd h (by decide)) (fun _ => ?_)
                  refine v_iload F dX8_ofRow_124 rfl ?_
                  refine v_goto F 131 dX8_ofRow_126 (by decide) ?_
                  refine v_istore (lv' := [(4, .int (nI x)), (3, .int (nv + nI 1)), (7, .int (nI 1)), (6, .int (nI x)), (5, .int fd), (0, .ref (ad 0)), (1, .int (nI r_)), (2, .int (nI wj))]) F dX8_ofRow_131 (by decide) rfl ?_
                  refine v_iinc (lv' := [(6, .int (nI (x + 1))), (4, .int (nI x)), (3, .int (nv + nI 1)), (7, .int (nI 1)), (5, .int fd), (0, .ref (ad 0)), (1, .int (nI r_)), (2, .int (nI wj))]) F (nI (x + 1)) dX8_ofRow_133 rfl (nI_add x 1) (by decide) rfl ?_
                  refine v_goto F 15 dX8_ofRow_136 (by decide) ?_
                  refine v_st (w' := wM ad G (snp T n mo) Hs Xt Tw Qs Ks u2 Wi) (pc' := 15) (st' := []) rfl rfl rfl [0, 4, 1, 2, 5, 6, 7] (lv' := [(6, .int (nI (x + 1))), (5, .int fd), (4, .int (nI x)), (3, .int (nv + nI 1)), (0, .ref (ad 0)), (1, .int (nI r_)), (2, .int (nI wj))]) rfl ?_
                  exact ih15 (x + 1) (nv + nI 1) x fd (by omega) (by omega) (by first | exact rwi_n hJ (by omega) h26 h31 h50 | exact rwi_b0 hJ (by omega) hrr (Or.inl h26) (Or.inl h67) | exact rwi_w0 hJ (by omega) hrr (Or.inl h26) h67 h76 | exact rwi_w1 hJ (by omega) hrr (Or.inl h26) h67 h86 | exact rwi_w2 hJ (by omega) hrr (Or.inl h26) h67 h76 h86 h72 | exact rwi_b0 hJ (by omega) hrr (Or.inl h26) (Or.inr (Nat.not_lt.mpr h72)) | exact rwi_b0 hJ (by omega) hrr (Or.inr (Or.inl h31)) (Or.inl h67) | exact rwi_w0 hJ (by omega) hrr (Or.inr (Or.inl h31)) h67 h76 | exact rwi_w1 hJ (by omega) hrr (Or.inr (Or.inl h31)) h67 h86 | exact rwi_w2 hJ (by omega) hrr (Or.inr (Or.inl h31)) h67 h76 h86 h72 | exact rwi_b0 hJ (by omega) hrr (Or.inr (Or.inl h31)) (Or.inr (Nat.not_lt.mpr h72)) | exact rwi_b0 hJ (by omega) hrr (Or.inr (Or.inr h50)) (Or.inl h67) | exact rwi_w0 hJ (by omega) hrr (Or.inr (Or.inr h50)) h67 h76 | exact rwi_w1 hJ (by omega) hrr (Or.inr (Or.inr h50)) h67 h86 | exact rwi_w2 hJ (by omega) hrr (Or.inr (Or.inr h50)) h67 h76 h86 h72 | exact rwi_b0 hJ (by omega) hrr (Or.inr (Or.inr h50)) (Or.inr (Nat.not_lt.mpr h72)))
                · replace h72 := nGn (a := wj) (b := 3) (by omega) (by decide) h72
                  refine v_iload_n F dX8_ofRow_75 2 rfl rfl ?_
                  refine v_if_ne F 84 dX8_ofRow_76 (by decide) (fun h76 => ?_) (fun h76 => ?_)
                  · replace h76 := nEn (a := wj) (b := 0) (by omega) (by decide) h76
                    refine v_iload_n F dX8_ofRow_84 2 rfl rfl ?_
                    refine v_iconst (v := nI 1) F dX8_ofRow_85 (by decide) ?_
                    refine v_icmp_ne F 97 dX8_ofRow_86 (by decide) (fun h86 => ?_) (fun h86 => ?_)
                    · replace h86 := nEn (a := wj) (b := 1) (by omega) (by decide) h86
                      refine v_aload_n F dX8_ofRow_97 0 rfl rfl ?_
                      refine v_get (v := .ref (ad 7)) F inlX8 (ci := 8) rfl 13 (by decide) rfl wF_RX8_28 dX8_ofRow_98 0 rfl rfl ?_
                      refine v_iload F dX8_ofRow_101 rfl ?_
                      refine v_ialdN F dX8_ofRow_103 7 rfl f rfl (by omega) (by decide) (u2 f) rfl ?_
                      refine v_topi ((plo T n mo f)) (w3 _ (by omega)) ?_
                      refine v_istore (lv' := [(5, .int (plo T n mo f)), (7, .int (nI 1)), (6, .int (nI x)), (4, .int (nI f)), (3, .int nv), (0, .ref (ad 0)), (1, .int (nI r_)), (2, .int (nI wj))]) F dX8_ofRow_104 (by decide) rfl ?_
                      refine v_iload_n F dX8_ofRow_106 3 rfl rfl ?_
                      refine v_iload F dX8_ofRow_107 rfl ?_
                      refine v_if_eq F 116 dX8_ofRow_109 (by decide) (fun h => absurd h (by decide)) (fun _ => ?_)
                      refine v_iconst (v := nI 1) F dX8_ofRow_112 (by decide) ?_
                      refine v_goto F 117 dX8_ofRow_113 (by decide) ?_
                      refine v_iadd F dX8_ofRow_117 ?_
                      refine v_istore_n (lv' := [(3, .int (nv + nI 1)), (5, .int (plo T n mo f)), (7, .int (nI 1)), (6, .int (nI x)), (4, .int (nI f)), (0, .ref (ad 0)), (1, .int (nI r_)), (2, .int (nI wj))]) F dX8_ofRow_118 3 rfl (by decide) rfl ?_
                      refine v_iload F dX8_ofRow_119 rfl ?_
                      refine v_if_eq F 129 dX8_ofRow_121 (by decide) (fun h => absurd h (by decide)) (fun _ => ?_)
                      refine v_iload F dX8_ofRow_124 rfl ?_
                      refine v_goto F 131 dX8_ofRow_126 (by decide) ?_
                      refine v_istore (lv' := [(4, .int (nI x)), (3, .int (nv + nI 1)), (5, .int (plo T n mo f)), (7, .int (nI 1)), (6, .int (nI x)), (0, .ref (ad 0)), (1, .int (nI r_)), (2, .int (nI wj))]) F dX8_ofRow_131 (by decide) rfl ?_
                      refine v_iinc (lv' := [(6, .int (nI (x + 1))), (4, .int (nI x)), (3, .int (nv + nI 1)), (5, .int (plo T n mo f)), (7, .int (nI 1)), (0, .ref (ad 0)), (1, .int (nI r_)), (2, .int (nI wj))]) F (nI (x + 1)) dX8_ofRow_133 rfl (nI_add x 1) (by decide) rfl ?_
                      refine v_goto F 15 dX8_ofRow_136 (by decide) ?_
                      refine v_st (w' := wM ad G (snp T n mo) Hs Xt Tw Qs Ks u2 Wi) (pc' := 15) (st' := []) rfl rfl rfl [0, 3, 1, 2, 5, 6, 7] (lv' := [(6, .int (nI (x + 1))), (5, .int (plo T n mo f)), (4, .int (nI x)), (3, .int (nv + nI 1)), (0, .ref (ad 0)), (1, .int (nI r_)), (2, .int (nI wj))]) rfl ?_
                      exact ih15 (x + 1) (nv + nI 1) x (plo T n mo f) (by omega) (by omega) (by first | exact rwi_n hJ (by omega) h26 h31 h50 | exact rwi_b0 hJ (by omega) hrr (Or.inl h26) (Or.inl h67) | exact rwi_w0 hJ (by omega) hrr (Or.inl h26) h67 h76 | exact rwi_w1 hJ (by omega) hrr (Or.inl h26) h67 h86 | exact rwi_w2 hJ (by omega) hrr (Or.inl h26) h67 h76 h86 h72 | exact rwi_b0 hJ (by omega) hrr (Or.inl h26) (Or.inr (Nat.not_lt.mpr h72)) | exact rwi_b0 hJ (by omega) hrr (Or.inr (Or.inl h31)) (Or.inl h67) | exact rwi_w0 hJ (by omega) hrr (Or.inr (Or.inl h31)) h67 h76 | exact rwi_w1 hJ (by omega) hrr (Or.inr (Or.inl h31)) h67 h86 | exact rwi_w2 hJ (by omega) hrr (Or.inr (Or.inl h31)) h67 h76 h86 h72 | exact rwi_b0 hJ (by omega) hrr (Or.inr (Or.inl h31)) (Or.inr (Nat.not_lt.mpr h72)) | exact rwi_b0 hJ (by omega) hrr (Or.inr (Or.inr h50)) (Or.inl h67) | exact rwi_w0 hJ (by omega) hrr (Or.inr (Or.inr h50)) h67 h76 | exact rwi_w1 hJ (by omega) hrr (Or.inr (Or.inr h50)) h67 h86 | exact rwi_w2 hJ (by omega) hrr (Or.inr (Or.inr h50)) h67 h76 h86 h72 | exact rwi_b0 hJ (by omega) hrr (Or.inr (Or.inr h50)) (Or.inr (Nat.not_lt.mpr h72)))
                    · replace h86 := nE (a := wj) (b := 1) (by omega) (by decide) h86
                      refine v_iload F dX8_ofRow_89 rfl ?_
                      refine v_iload F dX8_ofRow_91 rfl ?_
                      refine v_isub F dX8_ofRow_93 ?_
                      refine v_goto F 104 dX8_ofRow_94 (by decide) ?_
                      refine v_istore (lv' := [(5, .int (nI x - nI f)), (7, .int (nI 1)), (6, .int (nI x)), (4, .int (nI f)), (3, .int nv), (0, .ref (ad 0)), (1, .int (nI r_)), (2, .int (nI wj))]) F dX8_ofRow_104 (by decide) rfl ?_
                      refine v_iload_n F dX8_ofRow_106 3 rfl rfl ?_
                      refine v_iload F dX8_ofRow_107 rfl ?_
                      refine v_if_eq F 116 dX8_ofRow_109 (by decide) (fun h => absurd h (by decide)) (fun _ => ?_)
                      refine v_iconst (v := nI 1) F dX8_ofRow_112 (by decide) ?_
                      refine v_goto F 117 dX8_ofRow_113 (by decide) ?_
                      refine v_iadd F dX8_ofRow_117 ?_
                      refine v_istore_n (lv' := [(3, .int (nv + nI 1)), (5, .int (nI x - nI f)), (7, .int (nI 1)), (6, .int (nI x)), (4, .int (nI f)), (0, .ref (ad 0)), (1, .int (nI r_)), (2, .int (nI wj))]) F dX8_ofRow_118 3 rfl (by decide) rfl ?_
                      refine v_iload F dX8_ofRow_119 rfl ?_
                      refine v_if_eq F 129 dX8_ofRow_121 (by decide) (fun h => absurd h (by decide)) (fun _ => ?_)
                      refine v_iload F dX8_ofRow_124 rfl ?_
                      refine v_goto F 131 dX8_ofRow_126 (by decide) ?_
                      refine v_istore (lv' := [(4, .int (nI x)), (3, .int (nv + nI 1)), (5, .int (nI x - nI f)), (7, .int (nI 1)), (6, .int (nI x)), (0, .ref (ad 0)), (1, .int (nI r_)), (2, .int (nI wj))]) F dX8_ofRow_131 (by decide) rfl ?_
                      refine v_iinc (lv' := [(6, .int (nI (x + 1))), (4, .int (nI x)), (3, .int (nv + nI 1)), (5, .int (nI x - nI f)), (7, .int (nI 1)), (0, .ref (ad 0)), (1, .int (nI r_)), (2, .int (nI wj))]) F (nI (x + 1)) dX8_ofRow_133 rfl (nI_add x 1) (by decide) rfl ?_
                      refine v_goto F 15 dX8_ofRow_136 (by decide) ?_
                      refine v_st (w' := wM ad G (snp T n mo) Hs Xt Tw Qs Ks u2 Wi) (pc' := 15) (st' := []) rfl rfl rfl [0, 3, 1, 2, 5, 6, 7] (lv' := [(6, .int (nI (x + 1))), (5, .int (nI x - nI f)), (4, .int (nI x)), (3, .int (nv + nI 1)), (0, .ref (ad 0)), (1, .int (nI r_)), (2, .int (nI wj))]) rfl ?_
                      exact ih15 (x + 1) (nv + nI 1) x (nI x - nI f) (by omega) (by omega) (by first | exact rwi_n hJ (by omega) h26 h31 h50 | exact rwi_b0 hJ (by omega) hrr (Or.inl h26) (Or.inl h67) | exact rwi_w0 hJ (by omega) hrr (Or.inl h26) h67 h76 | exact rwi_w1 hJ (by omega) hrr (Or.inl h26) h67 h86 | exact rwi_w2 hJ (by omega) hrr (Or.inl h26) h67 h76 h86 h72 | exact rwi_b0 hJ (by omega) hrr (Or.inl h26) (Or.inr (Nat.not_lt.mpr h72)) | exact rwi_b0 hJ (by omega) hrr (Or.inr (Or.inl h31)) (Or.inl h67) | exact rwi_w0 hJ (by omega) hrr (Or.inr (Or.inl h31)) h67 h76 | exact rwi_w1 hJ (by omega) hrr (Or.inr (Or.inl h31)) h67 h86 | exact rwi_w2 hJ (by omega) hrr (Or.inr (Or.inl h31)) h67 h76 h86 h72 | exact rwi_b0 hJ (by omega) hrr (Or.inr (Or.inl h31)) (Or.inr (Nat.not_lt.mpr h72)) | exact rwi_b0 hJ (by omega) hrr (Or.inr (Or.inr h50)) (Or.inl h67) | exact rwi_w0 hJ (by omega) hrr (Or.inr (Or.inr h50)) h67 h76 | exact rwi_w1 hJ (by omega) hrr (Or.inr (Or.inr h50)) h67 h86 | exact rwi_w2 hJ (by omega) hrr (Or.inr (Or.inr h50)) h67 h76 h86 h72 | exact rwi_b0 hJ (by omega) hrr (Or.inr (Or.inr h50)) (Or.inr (Nat.not_lt.mpr h72)))
                  · replace h76 := nE (a := wj) (b := 0) (by omega) (by decide) h76
                    refine v_iload F dX8_ofRow_79 rfl ?_
                    refine v_goto F 104 dX8_ofRow_81 (by decide) ?_
                    refine v_istore (lv' := [(5, .int (nI f)), (7, .int (nI 1)), (6, .int (nI x)), (4, .int (nI f)), (3, .int nv), (0, .ref (ad 0)), (1, .int (nI r_)), (2, .int (nI wj))]) F dX8_ofRow_104 (by decide) rfl ?_
                    refine v_iload_n F dX8_ofRow_106 3 rfl rfl ?_
                    refine v_iload F dX8_ofRow_107 rfl ?_
                    refine v_if_eq F 116 dX8_ofRow_109 (by decide) (fun h => absurd h (by decide)) (fun _ => ?_)
                    refine v_iconst (v := nI 1) F dX8_ofRow_112 (by decide) ?_
                    refine v_goto F 117 dX8_ofRow_113 (by decide) ?_
                    refine v_iadd F dX8_ofRow_117 ?_
                    refine v_istore_n (lv' := [(3, .int (nv + nI 1)), (5, .int (nI f)), (7, .int (nI 1)), (6, .int (nI x)), (4, .int (nI f)), (0, .ref (ad 0)), (1, .int (nI r_)), (2, .int (nI wj))]) F dX8_ofRow_118 3 rfl (by decide) rfl ?_
                    refine v_iload F dX8_ofRow_119 rfl ?_
                    refine v_if_eq F 129 dX8_ofRow_121 (by decide) (fun h => absurd h (by decide)) (fun _ => ?_)
                    refine v_iload F dX8_ofRow_124 rfl ?_
                    refine v_goto F 131 dX8_ofRow_126 (by decide) ?_
                    refine v_istore (lv' := [(4, .int (nI x)), (3, .int (nv + nI 1)), (5, .int (nI f)), (7, .int (nI 1)), (6, .int (nI x)), (0, .ref (ad 0)), (1, .int (nI r_)), (2, .int (nI wj))]) F dX8_ofRow_131 (by decide) rfl ?_
                    refine v_iinc (lv' := [(6, .int (nI (x + 1))), (4, .int (nI x)), (3, .int (nv + nI 1)), (5, .int (nI f)), (7, .int (nI 1)), (0, .ref (ad 0)), (1, .int (nI r_)), (2, .int (nI wj))]) F (nI (x + 1)) dX8_ofRow_133 rfl (nI_add x 1) (by decide) rfl ?_
                    refine v_goto F 15 dX8_ofRow_136 (by decide) ?_
                    refine v_st (w' := wM ad G (snp T n mo) Hs Xt Tw Qs Ks u2 Wi) (pc' := 15) (st' := []) rfl rfl rfl [0, 3, 1, 2, 5, 6, 7] (lv' := [(6, .int (nI (x + 1))), (5, .int (nI f)), (4, .int (nI x)), (3, .int (nv + nI 1)), (0, .ref (ad 0)), (1, .int (nI r_)), (2, .int (nI wj))]) rfl ?_
                    exact ih15 (x + 1) (nv + nI 1) x (nI f) (by omega) (by omega) (by first | exact rwi_n hJ (by omega) h26 h31 h50 | exact rwi_b0 hJ (by omega) hrr (Or.inl h26) (Or.inl h67) | exact rwi_w0 hJ (by omega) hrr (Or.inl h26) h67 h76 | exact rwi_w1 hJ (by omega) hrr (Or.inl h26) h67 h86 | exact rwi_w2 hJ (by omega) hrr (Or.inl h26) h67 h76 h86 h72 | exact rwi_b0 hJ (by omega) hrr (Or.inl h26) (Or.inr (Nat.not_lt.mpr h72)) | exact rwi_b0 hJ (by omega) hrr (Or.inr (Or.inl h31)) (Or.inl h67) | exact rwi_w0 hJ (by omega) hrr (Or.inr (Or.inl h31)) h67 h76 | exact rwi_w1 hJ (by omega) hrr (Or.inr (Or.inl h31)) h67 h86 | exact rwi_w2 hJ (by omega) hrr (Or.inr (Or.inl h31)) h67 h76 h86 h72 | exact rwi_b0 hJ (by omega) hrr (Or.inr (Or.inl h31)) (Or.inr (Nat.not_lt.mpr h72)) | exact rwi_b0 hJ (by omega) hrr (Or.inr (Or.inr h50)) (Or.inl h67) | exact rwi_w0 hJ (by omega) hrr (Or.inr (Or.inr h50)) h67 h76 | exact rwi_w1 hJ (by omega) hrr (Or.inr (Or.inr h50)) h67 h86 | exact rwi_w2 hJ (by omega) hrr (Or.inr (Or.inr h50)) h67 h76 h86 h72 | exact rwi_b0 hJ (by omega) hrr (Or.inr (Or.inr h50)) (Or.inr (Nat.not_lt.mpr h72)))
  refine v_st (w' := wM ad G (snp T n mo) Hs Xt Tw Qs Ks u2 Wi) (pc' := 15) (st' := []) rfl rfl rfl [0, 1, 2, 3, 4, 5, 6] (lv' := [(6, .int (nI 0)), (5, .int (-1)), (4, .int (nI 0)), (3, .int (-1)), (0, .ref (ad 0)), (1, .int (nI r_)), (2, .int (nI wj))]) rfl ?_
  exact L15 _ 0 (-1) 0 (-1) (Nat.lt_succ_self _) (by omega) (rwi_0)
theorem cs_RX8_183 : CSV RX8 183 RX8 yX8_ofRow cX8_ofRow 8 (some .int) 2 := ⟨wC_yX8_ofRow, wM_RX8_183, wIm_yX8_ofRow, wSe_yX8_ofRow, wI_RX8, by decide +kernel, by decide⟩
set_option maxHeartbeats 400000 in
set_option maxRecDepth 100000 in
theorem m_X8_row (lau : Launch) (G : GT) (ad : Nat → Nat) (T : Nat → Int32) (n mo : Nat) (Hs : HT) (Xt : XT) (Tw : Nat) (Qs : QT) (Ks : KS) (Lo Wi : Nat → Int32) (ro_ wh : Int32) (hn : n ≤ 20) : MI lau G 7 yX8_row cX8_row 3 (some .int) [.ref (ad 0), .int ro_, .int wh] (wM ad G (snp T n mo) Hs Xt Tw Qs Ks Lo Wi) (fun u : MS => wM ad G u.1 u.2.1 u.2.2.1 (xRow ro_ wh) u.2.2.2.1 u.2.2.2.2.1 u.2.2.2.2.2.1 u.2.2.2.2.2.2) (fun r u => (xRow ro_ wh = 0 → r = rowV T n mo ro_.toNatClampNeg wh.toNatClampNeg ∧ u.1 = snp T n mo ∧ u.2.1 = Hs ∧ u.2.2.1 = Xt) ∧ (¬ xRow ro_ wh = 0 → u.1 = snp T n mo ∧ u.2.1 = Hs ∧ u.2.2.1 = Xt)) := by
  refine mi_of (by decide +kernel) (Nat.le_of_ble_eq_true rfl) ?_
  intro p e s m args below meth c A Q F hr hlk hQ
  refine v_st (w' := wM ad G (snp T n mo) Hs Xt Tw Qs Ks Lo Wi) (pc' := 0) (st' := []) rfl rfl rfl [0, 1, 2] (lv' := [(0, .ref (ad 0)), (1, .int ro_), (2, .int wh)]) rfl ?_
  refine v_aload_n F dX8_row_0 0 rfl rfl ?_
  refine v_iconst (v := nI 0) F dX8_row_1 (by decide) ?_
  refine v_put F inlX8 (ci := 8) rfl tyX8 tyX8_ok nmX8 5 (by decide) rfl rfl wF_RX8_35 dX8_row_2 (ty := .int) (by decide +kernel) rfl rfl 0 rfl (Nat.le_of_ble_eq_true rfl) (wM ad G (snp T n mo) Hs Xt (0) Qs Ks Lo Wi) rfl ?_
  refine v_iload_n F dX8_row_5 1 rfl rfl ?_
  refine v_if_lt F 27 dX8_row_6 (by decide) (fun c1 => ?_) (fun c1 => ?_)
  · have hxa : xRow ro_ wh = 1 := if_pos c1
    refine v_aload_n F dX8_row_27 0 rfl rfl ?_
    refine v_iconst (v := nI 1) F dX8_row_28 (by decide) ?_
    refine v_cVIF F cs_RX8_46 dX8_row_29 0 (ci := 8) rfl rfl (m_X8_fails lau G ad (snp T n mo) Hs Xt (0) Qs Ks Lo Wi 1 ) (by decide) rfl rfl (Nat.le_of_ble_eq_true rfl) ⟨Nat.zero_le _, Nat.zero_le _⟩ (fun r2 u3 w4 => ?_)
    subst w4
    refine v_w (w' := wM ad G (snp T n mo) Hs Xt (xRow ro_ wh) Qs Ks Lo Wi) (congrArg (fun z_ => wM ad G (snp T n mo) Hs Xt z_ Qs Ks Lo Wi) (show 1 = (xRow ro_ wh) by simp [if_true, *])) ?_
    exact v_iret F hr hlk hQ dX8_row_32 (((snp T n mo), Hs, Xt, Qs, Ks, Lo, Wi)) rfl (by first | (refine ⟨fun q => absurd q ?_, fun _ => ⟨rfl, rfl, rfl⟩⟩; simp [if_true, *]; done) | (refine ⟨fun _ => ⟨?_, ?_, ?_, ?_⟩, fun q => absurd ?_ q⟩; (rw [hc_ro, hc_wj, ofR, if_neg (by omega)]); (rfl); (rfl); (rfl); simp [if_true, *]; done))
  · have hro := c1
    refine v_iload_n F dX8_row_9 2 rfl rfl ?_
    refine v_iconst (v := nI 0) F dX8_row_10 (by decide) ?_
    refine v_iconst (v := nI 2) F dX8_row_11 (by decide) ?_
    refine v_cSIE F cs_RX8_39 dX8_row_12 (m_X8_in lau G wh (nI 0) (nI 2) ) (by decide) rfl rfl (Nat.le_of_ble_eq_true rfl) ⟨Nat.zero_le _, Nat.zero_le _⟩ (fun r5 u6 w7 => ?_)
    subst w7
    refine v_if_eq F 27 dX8_row_15 (by decide) (fun c8 => ?_) (fun c8 => ?_)
    · replace c8 := bI_f c8
      have hxb := xRow_b (ro := ro_) c8
      refine v_aload_n F dX8_row_27 0 rfl rfl ?_
      refine v_iconst (v := nI 1) F dX8_row_28 (by decide) ?_
      refine v_cVIF F cs_RX8_46 dX8_row_29 0 (ci := 8) rfl rfl (m_X8_fails lau G ad (snp T n mo) Hs Xt (0) Qs Ks Lo Wi 1 ) (by decide) rfl rfl (Nat.le_of_ble_eq_true rfl) ⟨Nat.zero_le _, Nat.zero_le _⟩ (fun r9 u10 w11 => ?_)
      subst w11
      refine v_w (w' := wM ad G (snp T n mo) Hs Xt (xRow ro_ wh) Qs Ks Lo Wi) (congrArg (fun z_ => wM ad G (snp T n mo) Hs Xt z_ Qs Ks Lo Wi) (show 1 = (xRow ro_ wh) by simp [if_true, *])) ?_
      exact v_iret F hr hlk hQ dX8_row_32 (((snp T n mo), Hs, Xt, Qs, Ks, Lo, Wi)) rfl (by first | (refine ⟨fun q => absurd q ?_, fun _ => ⟨rfl, rfl, rfl⟩⟩; simp [if_true, *]; done) | (refine ⟨fun _ => ⟨?_, ?_, ?_, ?_⟩, fun q => absurd ?_ q⟩; (rw [hc_ro, hc_wj, ofR, if_neg (by omega)]); (rfl); (rfl); (rfl); simp [if_true, *]; done))
    · replace c8 := bI_t c8
      have hxc := xRow_c hro c8
      obtain ⟨ro, hb0, rfl⟩ := nI_of hro
      obtain ⟨wj, -, hw, rfl⟩ := inB_nat (by decide) (by decide) c8
      have hc_ro : (nI ro).toNatClampNeg = ro := nI_clamp (by omega)
      have hc_wj : (nI wj).toNatClampNeg = wj := nI_clamp (by omega)
      refine v_aload_n F dX8_row_18 0 rfl rfl ?_
      refine v_iload_n F dX8_row_19 1 rfl rfl ?_
      refine v_iload_n F dX8_row_20 2 rfl rfl ?_
      refine v_cVIF F cs_RX8_183 dX8_row_21 0 (ci := 8) rfl rfl (m_X8_ofRow lau G ad T n mo Hs Xt (0) Qs Ks Lo Wi ro wj (by omega) (by omega) (by omega)) (by decide) rfl rfl (Nat.le_of_ble_eq_true rfl) ⟨Nat.zero_le _, Nat.zero_le _⟩ (fun r12 u13 w14 => ?_)
      refine v_topi (ofR T n mo ro wj) w14 ?_
      refine v_goto F 32 dX8_row_24 (by decide) ?_
      refine v_w (w' := wM ad G (snp T n mo) Hs Xt (xRow (nI ro) (nI wj)) Qs Ks u13 Wi) (congrArg (fun z_ => wM ad G (snp T n mo) Hs Xt z_ Qs Ks u13 Wi) (show (0) = (xRow (nI ro) (nI wj)) by simp [if_true, *])) ?_
      exact v_iret F hr hlk hQ dX8_row_32 (((snp T n mo), Hs, Xt, Qs, Ks, u13, Wi)) rfl (by first | (refine ⟨fun q => absurd q ?_, fun _ => ⟨rfl, rfl, rfl⟩⟩; simp [if_true, *]; done) | (refine ⟨fun _ => ⟨?_, ?_, ?_, ?_⟩, fun q => absurd ?_ q⟩; (rw [hc_ro, hc_wj, ofR, if_neg (by omega)]); (rfl); (rfl); (rfl); simp [if_true, *]; done))
