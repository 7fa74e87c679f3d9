theorem cs_RX7_202 : CSV RX7 202 RX2 yX2_lineAt cX2_lineAt 2 (some .int) 1 := ⟨wC_yX2_lineAt, wM_RX7_202, wIm_yX2_lineAt, wSe_yX2_lineAt, wI_RX2, by decide +kernel, by decide⟩
set_option maxHeartbeats 4000000 in
set_option maxRecDepth 100000 in
theorem m_X7_sum (lau : Launch) (G : GT) (ad : Nat → Nat) (T : Nat → Int32) (n mo ver : Nat) (S : Nat → Int32) (h : Nat) (P : PT) (Tr : TT) (Rg : RT) (Tx : XT) (Rd : DT) (a : Nat) (b : Nat) (hb0 : a ≤ b) (hb1 : b < 64) (hn : n ≤ 20) (hT : TOK T n) (hP : PCI T n mo ver P) (hC : TCI T n mo ver Tr) (hR : RCI T n ver Rg) : MI lau G 13 yX7_sum cX7_sum 6 (some .int) [.ref (ad 0), .int (nI a), .int (nI b)] (wC ad G (T, n, mo, ver) (S, h) P Tr Rg Tx Rd) (fun u : PT × TT × RT => wC ad G (T, n, mo, ver) (S, h) u.1 u.2.1 u.2.2 Tx Rd) (fun r u => r = sm T n mo a (b + 1 - a) ∧ PCI T n mo ver u.1 ∧ TCI T n mo ver u.2.1 ∧ RCI T n ver u.2.2) := by
  refine mi_of (by decide +kernel) (Nat.le_of_ble_eq_true rfl) ?_
  intro p e s m args below meth c A Q F hr hlk hQ
  refine v_st (w' := wC ad G (T, n, mo, ver) (S, h) P Tr Rg Tx Rd) (pc' := 0) (st' := []) rfl rfl rfl [0, 1, 2] (lv' := [(0, .ref (ad 0)), (1, .int (nI a)), (2, .int (nI b))]) rfl ?_
  refine v_iload_n F dX7_sum_0 1 rfl rfl ?_
  refine v_iload_n F dX7_sum_1 2 rfl rfl ?_
  refine v_bipush (v := nI 64) F dX7_sum_2 (by decide) ?_
  refine v_cSIE F cs_RX7_91 dX7_sum_4 (m_X7_isStretch lau G (nI a) (nI b) (nI 64) ) (by decide) rfl rfl (Nat.le_of_ble_eq_true rfl) ⟨Nat.zero_le _, Nat.zero_le _⟩ (fun r1 u2 w3 => ?_)
  subst w3
  refine v_topi (bI true) (congrArg bI (stB_t hb0 hb1 (by decide))) ?_
  refine v_if_ne F 20 dX7_sum_7 (by decide) (fun _ => ?_) (fun h => absurd h (by decide))
  refine v_iconst (v := nI 0) F dX7_sum_20 (by decide) ?_
  refine v_istore_n (lv' := [(3, .int (nI 0)), (0, .ref (ad 0)), (1, .int (nI a)), (2, .int (nI b))]) F dX7_sum_21 3 rfl (by decide) rfl ?_
  refine v_iload_n F dX7_sum_22 1 rfl rfl ?_
  refine v_istore (lv' := [(4, .int (nI a)), (3, .int (nI 0)), (0, .ref (ad 0)), (1, .int (nI a)), (2, .int (nI b))]) F dX7_sum_23 (by decide) rfl ?_
  have L25 : ∀ (k_ : Nat) (k : Nat) (P_ : PT) (sv : Int32), b + 1 - (a + k) < k_ → (a + k ≤ b + 1) → (PCI T n mo ver P_) → (sv = sm T n mo a k) → V p lau e (RM 13) s m args below meth c 6 G A Q (wC ad G (T, n, mo, ver) (S, h) P_ Tr Rg Tx Rd) 0 0 25 [(4, .int (nI (a + k))), (3, .int sv), (0, .ref (ad 0)), (1, .int (nI a)), (2, .int (nI b))] [] := by
    intro k_
    induction k_ with
    | zero => exact fun k P_ sv hk_ hk hP_ hs => absurd hk_ (Nat.not_lt_zero _)
    | succ k_ ih25 =>
      intro k P_ sv hk_25 hk hP_ hs
      refine v_iload F dX7_sum_25 rfl ?_
      refine v_iload_n F dX7_sum_27 2 rfl rfl ?_
      refine v_icmp_gt F 68 dX7_sum_28 (by decide) (fun c4 => ?_) (fun c4 => ?_)
      · replace c4 := nT (a := (a + k)) (b := b) (by omega) (by omega) c4
        refine v_iload_n F dX7_sum_68 3 rfl rfl ?_
        exact v_iret F hr hlk hQ dX7_sum_69 ((P_, Tr, Rg)) rfl (by refine ⟨?_, hP_, hC, hR⟩; rw [hs, show b + 1 - a = k by omega])
      · replace c4 := nTn (a := (a + k)) (b := b) (by omega) (by omega) c4
        refine v_aload_n F dX7_sum_31 0 rfl rfl ?_
        refine v_get (v := .ref (ad 4)) F inlX7 (ci := 7) rfl 3 (by decide) rfl wF_RX7_35 dX7_sum_32 0 rfl rfl ?_
        refine v_iload F dX7_sum_35 rfl ?_
        refine v_cVIF F cs_RX7_202 dX7_sum_37 4 (ci := 2) rfl rfl (m_X2_lineAt lau G ad T n mo ver (S, h) P_ Tr Rg Tx Rd (a + k) (by omega) (by omega) hP_) (by decide) rfl rfl (Nat.le_of_ble_eq_true rfl) ⟨Nat.zero_le _, Nat.zero_le _⟩ (fun r5 u6 w7 => ?_)
        obtain ⟨rfl, h8⟩ := w7
        rcases hg : lb T (a + k) mo (-1) n with _ | g
        · refine v_topi (-1) (plo_n hg) ?_
          refine v_istore (lv' := [(5, .int (-1)), (4, .int (nI (a + k))), (3, .int sv), (0, .ref (ad 0)), (1, .int (nI a)), (2, .int (nI b))]) F dX7_sum_40 (by decide) rfl ?_
          refine v_iload F dX7_sum_42 rfl ?_
          refine v_iconst (v := (-1)) F dX7_sum_44 (by decide) ?_
          refine v_icmp_eq F 62 dX7_sum_45 (by decide) (fun _ => ?_) (fun h => absurd h (by decide))
          refine v_iinc (lv' := [(4, .int (nI ((a + k) + 1))), (5, .int (-1)), (3, .int sv), (0, .ref (ad 0)), (1, .int (nI a)), (2, .int (nI b))]) F (nI ((a + k) + 1)) dX7_sum_62 rfl (nI_add (a + k) 1) (by decide) rfl ?_
          refine v_goto F 25 dX7_sum_65 (by decide) ?_
          refine v_st (w' := wC ad G (T, n, mo, ver) (S, h) u6 Tr Rg Tx Rd) (pc' := 25) (st' := []) rfl rfl rfl [0, 2, 3, 4, 5] (lv' := [(4, .int (nI ((a + k) + 1))), (3, .int sv), (0, .ref (ad 0)), (1, .int (nI a)), (2, .int (nI b))]) rfl ?_
          exact ih25 (k + 1) u6 sv (by omega) (by omega) (h8) (by first | (rw [sm_n hg, hs]; done) | (rw [sm_s hg, hs]; done))
        · have hgl := lb_lt _ _ _ _ _ _ hg
          refine v_topi (nI g) (plo_s hg) ?_
          refine v_istore (lv' := [(5, .int (nI g)), (4, .int (nI (a + k))), (3, .int sv), (0, .ref (ad 0)), (1, .int (nI a)), (2, .int (nI b))]) F dX7_sum_40 (by decide) rfl ?_
          refine v_iload F dX7_sum_42 rfl ?_
          refine v_iconst (v := (-1)) F dX7_sum_44 (by decide) ?_
          refine v_icmp_eq F 62 dX7_sum_45 (by decide) (fun c9 => ?_) (fun c9 => ?_)
          · exact absurd c9 (nI_ne1 (by omega))
          · refine v_iload_n F dX7_sum_48 3 rfl rfl ?_
            refine v_aload_n F dX7_sum_49 0 rfl rfl ?_
            refine v_get (v := .ref (ad 1)) F inlX7 (ci := 7) rfl 0 (by decide) rfl wF_RX7_10 dX7_sum_50 0 rfl rfl ?_
            refine v_iload F dX7_sum_53 rfl ?_
            refine v_iload F dX7_sum_55 rfl ?_
            refine v_cVIF F cs_RX7_120 dX7_sum_57 1 (ci := 1) rfl rfl (m_X1_valueAt lau G ad T n mo ver (S, h) u6 Tr Rg Tx Rd g (a + k) (by omega) (by omega)) (by decide) rfl rfl (Nat.le_of_ble_eq_true rfl) ⟨Nat.zero_le _, Nat.zero_le _⟩ (fun r10 u11 w12 => ?_)
            subst w12
            refine v_iadd F dX7_sum_60 ?_
            refine v_istore_n (lv' := [(3, .int (sv + (pVal T g (a + k)))), (5, .int (nI g)), (4, .int (nI (a + k))), (0, .ref (ad 0)), (1, .int (nI a)), (2, .int (nI b))]) F dX7_sum_61 3 rfl (by decide) rfl ?_
            refine v_iinc (lv' := [(4, .int (nI ((a + k) + 1))), (3, .int (sv + (pVal T g (a + k)))), (5, .int (nI g)), (0, .ref (ad 0)), (1, .int (nI a)), (2, .int (nI b))]) F (nI ((a + k) + 1)) dX7_sum_62 rfl (nI_add (a + k) 1) (by decide) rfl ?_
            refine v_goto F 25 dX7_sum_65 (by decide) ?_
            refine v_st (w' := wC ad G (T, n, mo, ver) (S, h) u6 Tr Rg Tx Rd) (pc' := 25) (st' := []) rfl rfl rfl [0, 1, 3, 4, 5] (lv' := [(4, .int (nI ((a + k) + 1))), (3, .int (sv + (pVal T g (a + k)))), (0, .ref (ad 0)), (1, .int (nI a)), (2, .int (nI b))]) rfl ?_
            exact ih25 (k + 1) u6 (sv + (pVal T g (a + k))) (by omega) (by omega) (h8) (by first | (rw [sm_n hg, hs]; done) | (rw [sm_s hg, hs]; done))
  refine v_st (w' := wC ad G (T, n, mo, ver) (S, h) P Tr Rg Tx Rd) (pc' := 25) (st' := []) rfl rfl rfl [0, 1, 2, 3, 4] (lv' := [(4, .int (nI a)), (3, .int (nI 0)), (0, .ref (ad 0)), (1, .int (nI a)), (2, .int (nI b))]) rfl ?_
  exact L25 _ 0 P (nI 0) (Nat.lt_succ_self _) (by omega) (hP) (rfl)
theorem cs_RX7_127 : CSV RX7 127 RX4 yX4_neverLowest cX4_neverLowest 3 (some .int) 0 := ⟨wC_yX4_neverLowest, wM_RX7_127, wIm_yX4_neverLowest, wSe_yX4_neverLowest, wI_RX4, by decide +kernel, by decide⟩
theorem cs_RX7_130 : CSS RX7 130 yJ6_bitCount_0f7a4 cJ6_bitCount_0f7a4 1 (some .int) 1 := ⟨wC_yJ6_bitCount_0f7a4, wM_RX7_130, wSt_yJ6_bitCount_0f7a4, wI_RJ6, by decide +kernel, by decide⟩
theorem cs_RX7_185 : CSV RX7 185 RX2 yX2_placesOf cX2_placesOf 4 (some .int) 1 := ⟨wC_yX2_placesOf, wM_RX7_185, wIm_yX2_placesOf, wSe_yX2_placesOf, wI_RX2, by decide +kernel, by decide⟩
theorem cs_RX7_188 : CSV RX7 188 RX6 yX6_nodesOf cX6_nodesOf 4 (some .int) 1 := ⟨wC_yX6_nodesOf, wM_RX7_188, wIm_yX6_nodesOf, wSe_yX6_nodesOf, wI_RX6, by decide +kernel, by decide⟩
theorem cs_RX7_234 : CSV RX7 234 RX2 yX2_rowCount cX2_rowCount 1 (some .int) 0 := ⟨wC_yX2_rowCount, wM_RX7_234, wIm_yX2_rowCount, wSe_yX2_rowCount, wI_RX2, by decide +kernel, by decide⟩
theorem cs_RX7_240 : CSV RX7 240 RX1 yX1_living cX1_living 3 (some .int) 0 := ⟨wC_yX1_living, wM_RX7_240, wIm_yX1_living, wSe_yX1_living, wI_RX1, by decide +kernel, by decide⟩
theorem cs_RX7_243 : CSV RX7 243 RX6 yX6_allSteps cX6_allSteps 3 (some .int) 0 := ⟨wC_yX6_allSteps, wM_RX7_243, wIm_yX6_allSteps, wSe_yX6_allSteps, wI_RX6, by decide +kernel, by decide⟩
set_option maxHeartbeats 4000000 in
set_option maxRecDepth 100000 in
theorem m_X7_count (lau : Launch) (G : GT) (ad : Nat → Nat) (T : Nat → Int32) (n mo ver : Nat) (S : Nat → Int32) (h : Nat) (P : PT) (Tr : TT) (Rg : RT) (Tx : XT) (Rd : DT) (wj : Nat) (hb0 : wj ≤ 8) (hn : n ≤ 20) (hT : TOK T n) (hP : PCI T n mo ver P) (hC : TCI T n mo ver Tr) (hR : RCI T n ver Rg) : MI lau G 14 yX7_count cX7_count 2 (some .int) [.ref (ad 0), .int (nI wj)] (wC ad G (T, n, mo, ver) (S, h) P Tr Rg Tx Rd) (fun u : PT × TT × RT => wC ad G (T, n, mo, ver) (S, h) u.1 u.2.1 u.2.2 Tx Rd) (fun r u => r = cntV T n mo h wj ∧ PCI T n mo ver u.1 ∧ TCI T n mo ver u.2.1 ∧ RCI T n ver u.2.2) := by
  refine mi_of (by decide +kernel) (Nat.le_of_ble_eq_true rfl) ?_
  intro p e s m args below meth c A Q F hr hlk hQ
  refine v_st (w' := wC ad G (T, n, mo, ver) (S, h) P Tr Rg Tx Rd) (pc' := 0) (st' := []) rfl rfl rfl [0, 1] (lv' := [(0, .ref (ad 0)), (1, .int (nI wj))]) rfl ?_
  refine v_iload_n F dX7_count_0 1 rfl rfl ?_
  rcases (show wj = 0 ∨ wj = 1 ∨ wj = 2 ∨ wj = 3 ∨ wj = 4 ∨ wj = 5 ∨ wj = 6 ∨ wj = 7 ∨ wj = 8 by omega) with rfl | rfl | rfl | rfl | rfl | rfl | rfl | rfl | rfl
  · refine v_tableIn F 52 dX7_count_1 (by decide) (by decide) rfl (by decide) ?_
    refine v_aload_n F dX7_count_52 0 rfl rfl ?_
    refine v_get (v := .ref (ad 1)) F inlX7 (ci := 7) rfl 0 (by decide) rfl wF_RX7_10 dX7_count_53 0 rfl rfl ?_
    refine v_cVIF F cs_RX7_141 dX7_count_56 1 (ci := 1) rfl rfl (m_X1_moment lau G ad T n mo ver (S, h) P Tr Rg Tx Rd ) (by decide) rfl rfl (Nat.le_of_ble_eq_true rfl) ⟨Nat.zero_le _, Nat.zero_le _⟩ (fun r1 u2 w3 => ?_)
    subst w3
    exact v_iret F hr hlk hQ dX7_count_59 ((P, Tr, Rg)) rfl (by refine ⟨?_, hP, hC, hR⟩; simp [cntV, ncl0, ncl1, ncl2, ncl3, ncl4, ncl5, ncl6, ncl7, ncl8])
  · refine v_tableIn F 60 dX7_count_1 (by decide) (by decide) rfl (by decide) ?_
    refine v_aload_n F dX7_count_60 0 rfl rfl ?_
    refine v_get (v := .ref (ad 1)) F inlX7 (ci := 7) rfl 0 (by decide) rfl wF_RX7_10 dX7_count_61 0 rfl rfl ?_
    refine v_cVIF F cs_RX7_67 dX7_count_64 1 (ci := 1) rfl rfl (m_X1_size lau G ad T n mo ver (S, h) P Tr Rg Tx Rd ) (by decide) rfl rfl (Nat.le_of_ble_eq_true rfl) ⟨Nat.zero_le _, Nat.zero_le _⟩ (fun r4 u5 w6 => ?_)
    subst w6
    exact v_iret F hr hlk hQ dX7_count_67 ((P, Tr, Rg)) rfl (by refine ⟨?_, hP, hC, hR⟩; simp [cntV, ncl0, ncl1, ncl2, ncl3, ncl4, ncl5, ncl6, ncl7, ncl8])
  · refine v_tableIn F 68 dX7_count_1 (by decide) (by decide) rfl (by decide) ?_
    refine v_aload_n F dX7_count_68 0 rfl rfl ?_
    refine v_get (v := .ref (ad 1)) F inlX7 (ci := 7) rfl 0 (by decide) rfl wF_RX7_10 dX7_count_69 0 rfl rfl ?_
    refine v_cVIF F cs_RX7_240 dX7_count_72 1 (ci := 1) rfl rfl (m_X1_living lau G ad T n mo ver (S, h) P Tr Rg Tx Rd (by omega)) (by decide) rfl rfl (Nat.le_of_ble_eq_true rfl) ⟨Nat.zero_le _, Nat.zero_le _⟩ (fun r7 u8 w9 => ?_)
    subst w9
    exact v_iret F hr hlk hQ dX7_count_75 ((P, Tr, Rg)) rfl (by refine ⟨?_, hP, hC, hR⟩; simp [cntV, ncl0, ncl1, ncl2, ncl3, ncl4, ncl5, ncl6, ncl7, ncl8])
  · refine v_tableIn F 76 dX7_count_1 (by decide) (by decide) rfl (by decide) ?_
    refine v_aload_n F dX7_count_76 0 rfl rfl ?_
    refine v_get (v := .ref (ad 4)) F inlX7 (ci := 7) rfl 3 (by decide) rfl wF_RX7_35 dX7_count_77 0 rfl rfl ?_
    refine v_cVIF F cs_RX7_234 dX7_count_80 4 (ci := 2) rfl rfl (m_X2_rowCount lau G ad T n mo ver (S, h) P Tr Rg Tx Rd (by omega) hP) (by decide) rfl rfl (Nat.le_of_ble_eq_true rfl) ⟨Nat.zero_le _, Nat.zero_le _⟩ (fun r10 u11 w12 => ?_)
    obtain ⟨rfl, h13⟩ := w12
    exact v_iret F hr hlk hQ dX7_count_83 ((u11, Tr, Rg)) rfl (by refine ⟨?_, h13, hC, hR⟩; simp [cntV, ncl0, ncl1, ncl2, ncl3, ncl4, ncl5, ncl6, ncl7, ncl8])
  · refine v_tableIn F 84 dX7_count_1 (by decide) (by decide) rfl (by decide) ?_
    refine v_aload_n F dX7_count_84 0 rfl rfl ?_
    refine v_get (v := .ref (ad 4)) F inlX7 (ci := 7) rfl 3 (by decide) rfl wF_RX7_35 dX7_count_85 0 rfl rfl ?_
    refine v_iconst (v := (-1)) F dX7_count_88 (by decide) ?_
    refine v_cVIF F cs_RX7_185 dX7_count_89 4 (ci := 2) rfl rfl (m_X2_placesOf lau G ad T n mo ver (S, h) P Tr Rg Tx Rd (-1) (by omega) hP) (by decide) rfl rfl (Nat.le_of_ble_eq_true rfl) ⟨Nat.zero_le _, Nat.zero_le _⟩ (fun r14 u15 w16 => ?_)
    obtain ⟨rfl, h17⟩ := w16
    exact v_iret F hr hlk hQ dX7_count_92 ((u15, Tr, Rg)) rfl (by refine ⟨?_, h17, hC, hR⟩; simp [cntV, ncl0, ncl1, ncl2, ncl3, ncl4, ncl5, ncl6, ncl7, ncl8])
  · refine v_tableIn F 93 dX7_count_1 (by decide) (by decide) rfl (by decide) ?_
    refine v_aload_n F dX7_count_93 0 rfl rfl ?_
    refine v_get (v := .ref (ad 5)) F inlX7 (ci := 7) rfl 4 (by decide) rfl wF_RX7_42 dX7_count_94 0 rfl rfl ?_
    refine v_cVIF F cs_RX7_243 dX7_count_97 5 (ci := 6) rfl rfl (m_X6_allSteps lau G ad T n mo ver (S, h) P Tr Rg Tx Rd (by omega) hT hC) (by decide) rfl rfl (Nat.le_of_ble_eq_true rfl) ⟨Nat.zero_le _, Nat.zero_le _⟩ (fun r18 u19 w20 => ?_)
    obtain ⟨rfl, h21⟩ := w20
    exact v_iret F hr hlk hQ dX7_count_100 ((P, u19, Rg)) rfl (by refine ⟨?_, hP, h21, hR⟩; simp [cntV, ncl0, ncl1, ncl2, ncl3, ncl4, ncl5, ncl6, ncl7, ncl8])
  · refine v_tableIn F 101 dX7_count_1 (by decide) (by decide) rfl (by decide) ?_
    refine v_bipush (v := nI 127) F dX7_count_101 (by decide) ?_
    refine v_aload_n F dX7_count_103 0 rfl rfl ?_
    refine v_get (v := .ref (ad 5)) F inlX7 (ci := 7) rfl 4 (by decide) rfl wF_RX7_42 dX7_count_104 0 rfl rfl ?_
    refine v_iconst (v := (-1)) F dX7_count_107 (by decide) ?_
    refine v_cVIF F cs_RX7_188 dX7_count_108 5 (ci := 6) rfl rfl (m_X6_nodesOf lau G ad T n mo ver (S, h) P Tr Rg Tx Rd (-1) (by omega) hT hC) (by decide) rfl rfl (Nat.le_of_ble_eq_true rfl) ⟨Nat.zero_le _, Nat.zero_le _⟩ (fun r22 u23 w24 => ?_)
    obtain ⟨rfl, h25⟩ := w24
    refine v_isub F dX7_count_111 ?_
    exact v_iret F hr hlk hQ dX7_count_112 ((P, u23, Rg)) rfl (by refine ⟨?_, hP, h25, hR⟩; simp [cntV, ncl0, ncl1, ncl2, ncl3, ncl4, ncl5, ncl6, ncl7, ncl8])
  · refine v_tableIn F 113 dX7_count_1 (by decide) (by decide) rfl (by decide) ?_
    refine v_aload_n F dX7_count_113 0 rfl rfl ?_
    refine v_get (v := .ref (ad 6)) F inlX7 (ci := 7) rfl 5 (by decide) rfl wF_RX7_49 dX7_count_114 0 rfl rfl ?_
    refine v_cVIF F cs_RX7_127 dX7_count_117 6 (ci := 4) rfl rfl (m_X4_neverLowest lau G ad T n mo ver (S, h) P Tr Rg Tx Rd (by omega) hR) (by decide) rfl rfl (Nat.le_of_ble_eq_true rfl) ⟨Nat.zero_le _, Nat.zero_le _⟩ (fun r26 u27 w28 => ?_)
    obtain ⟨rfl, h29⟩ := w28
    refine v_cSIE F cs_RX7_130 dX7_count_120 (m_J6_bitCount_0f7a4 lau G (nvr T n n) ) (by decide) rfl rfl (Nat.le_of_ble_eq_true rfl) ⟨Nat.zero_le _, Nat.zero_le _⟩ (fun r30 u31 w32 => ?_)
    subst w32
    exact v_iret F hr hlk hQ dX7_count_123 ((P, Tr, u27)) rfl (by refine ⟨?_, hP, hC, h29⟩; simp [cntV, ncl0, ncl1, ncl2, ncl3, ncl4, ncl5, ncl6, ncl7, ncl8])
  · refine v_tableIn F 124 dX7_count_1 (by decide) (by decide) rfl (by decide) ?_
    refine v_aload_n F dX7_count_124 0 rfl rfl ?_
    refine v_get (v := .ref (ad 2)) F inlX7 (ci := 7) rfl 1 (by decide) rfl wF_RX7_19 dX7_count_125 0 rfl rfl ?_
    refine v_cVIF F cs_RX7_177 dX7_count_128 2 (ci := 0) rfl rfl (m_X0_size lau G ad (T, n, mo, ver) S h P Tr Rg Tx Rd ) (by decide) rfl rfl (Nat.le_of_ble_eq_true rfl) ⟨Nat.zero_le _, Nat.zero_le _⟩ (fun r33 u34 w35 => ?_)
    subst w35
    exact v_iret F hr hlk hQ dX7_count_131 ((P, Tr, Rg)) rfl (by refine ⟨?_, hP, hC, hR⟩; simp [cntV, ncl0, ncl1, ncl2, ncl3, ncl4, ncl5, ncl6, ncl7, ncl8])
theorem cs_RX7_191 : CSV RX7 191 RX4 yX4_firstMoment cX4_firstMoment 2 (some .int) 1 := ⟨wC_yX4_firstMoment, wM_RX7_191, wIm_yX4_firstMoment, wSe_yX4_firstMoment, wI_RX4, by decide +kernel, by decide⟩
set_option maxHeartbeats 4000000 in
set_option maxRecDepth 100000 in
theorem m_X7_line (lau : Launch) (G : GT) (ad : Nat → Nat) (T : Nat → Int32) (n mo ver : Nat) (S : Nat → Int32) (h : Nat) (P : PT) (Tr : TT) (Rg : RT) (Tx : XT) (Rd : DT) (li : Nat) (wj : Nat) (hb0 : li < n) (hb1 : wj ≤ 8) (hn : n ≤ 20) (hT : TOK T n) (hP : PCI T n mo ver P) (hC : TCI T n mo ver Tr) (hR : RCI T n ver Rg) : MI lau G 14 yX7_line cX7_line 3 (some .int) [.ref (ad 0), .int (nI li), .int (nI wj)] (wC ad G (T, n, mo, ver) (S, h) P Tr Rg Tx Rd) (fun u : PT × TT × RT => wC ad G (T, n, mo, ver) (S, h) u.1 u.2.1 u.2.2 Tx Rd) (fun r u => r = linV T n mo li wj ∧ PCI T n mo ver u.1 ∧ TCI T n mo ver u.2.1 ∧ RCI T n ver u.2.2) := by
  refine mi_of (by decide +kernel) (Nat.le_of_ble_eq_true rfl) ?_
  intro p e s m args below meth c A Q F hr hlk hQ
  refine v_st (w' := wC ad G (T, n, mo, ver) (S, h) P Tr Rg Tx Rd) (pc' := 0) (st' := []) rfl rfl rfl [0, 1, 2] (lv' := [(0, .ref (ad 0)), (1, .int (nI li)), (2, .int (nI wj))]) rfl ?_
  refine v_aload_n F dX7_line_0 0 rfl rfl ?_
  refine v_get (v := .ref (ad 1)) F inlX7 (ci := 7) rfl 0 (by decide) rfl wF_RX7_10 dX7_line_1 0 rfl rfl ?_
  refine v_iload_n F dX7_line_4 1 rfl rfl ?_
  refine v_cVIF F cs_RX7_83 dX7_line_5 1 (ci := 1) rfl rfl (m_X1_has lau G ad T n mo ver (S, h) P Tr Rg Tx Rd (nI li) ) (by decide) rfl rfl (Nat.le_of_ble_eq_true rfl) ⟨Nat.zero_le _, Nat.zero_le _⟩ (fun r1 u2 w3 => ?_)
  subst w3
  refine v_topi (bI true) (hasB_t hb0 (by omega)) ?_
  refine v_if_ne F 21 dX7_line_8 (by decide) (fun _ => ?_) (fun h => absurd h (by decide))
  refine v_iload_n F dX7_line_21 2 rfl rfl ?_
  refine v_if_lt F 31 dX7_line_22 (by decide) (fun c4 => ?_) (fun c4 => ?_)
  · replace c4 := nL (a := wj) (b := 0) (by omega) (by decide) c4
    exact absurd c4 (Nat.not_lt_zero _)
  · replace c4 := nLn (a := wj) (b := 0) (by omega) (by decide) c4
    refine v_iload_n F dX7_line_25 2 rfl rfl ?_
    refine v_bipush (v := nI 8) F dX7_line_26 (by decide) ?_
    refine v_icmp_le F 41 dX7_line_28 (by decide) (fun c5 => ?_) (fun c5 => ?_)
    · replace c5 := nK (a := wj) (b := 8) (by omega) (by decide) c5
      refine v_iload_n F dX7_line_41 2 rfl rfl ?_
      rcases (show wj = 6 ∨ wj = 7 ∨ wj = 8 ∨ wj < 6 by omega) with rfl | rfl | rfl | hw6
      · refine v_tableIn F 68 dX7_line_42 (by decide) (by decide) rfl (by decide) ?_
        refine v_aload_n F dX7_line_68 0 rfl rfl ?_
        refine v_get (v := .ref (ad 4)) F inlX7 (ci := 7) rfl 3 (by decide) rfl wF_RX7_35 dX7_line_69 0 rfl rfl ?_
        refine v_iload_n F dX7_line_72 1 rfl rfl ?_
        refine v_cVIF F cs_RX7_185 dX7_line_73 4 (ci := 2) rfl rfl (m_X2_placesOf lau G ad T n mo ver (S, h) P Tr Rg Tx Rd (nI li) (by omega) hP) (by decide) rfl rfl (Nat.le_of_ble_eq_true rfl) ⟨Nat.zero_le _, Nat.zero_le _⟩ (fun r6 u7 w8 => ?_)
        obtain ⟨rfl, h9⟩ := w8
        exact v_iret F hr hlk hQ dX7_line_76 ((u7, Tr, Rg)) rfl (by refine ⟨?_, h9, hC, hR⟩; simp [linV])
      · refine v_tableIn F 77 dX7_line_42 (by decide) (by decide) rfl (by decide) ?_
        refine v_aload_n F dX7_line_77 0 rfl rfl ?_
        refine v_get (v := .ref (ad 5)) F inlX7 (ci := 7) rfl 4 (by decide) rfl wF_RX7_42 dX7_line_78 0 rfl rfl ?_
        refine v_iload_n F dX7_line_81 1 rfl rfl ?_
        refine v_cVIF F cs_RX7_188 dX7_line_82 5 (ci := 6) rfl rfl (m_X6_nodesOf lau G ad T n mo ver (S, h) P Tr Rg Tx Rd (nI li) (by omega) hT hC) (by decide) rfl rfl (Nat.le_of_ble_eq_true rfl) ⟨Nat.zero_le _, Nat.zero_le _⟩ (fun r10 u11 w12 => ?_)
        obtain ⟨rfl, h13⟩ := w12
        exact v_iret F hr hlk hQ dX7_line_85 ((P, u11, Rg)) rfl (by refine ⟨?_, hP, h13, hR⟩; simp [linV])
      · refine v_tableIn F 86 dX7_line_42 (by decide) (by decide) rfl (by decide) ?_
        refine v_aload_n F dX7_line_86 0 rfl rfl ?_
        refine v_get (v := .ref (ad 6)) F inlX7 (ci := 7) rfl 5 (by decide) rfl wF_RX7_49 dX7_line_87 0 rfl rfl ?_
        refine v_iload_n F dX7_line_90 1 rfl rfl ?_
        refine v_cVIF F cs_RX7_191 dX7_line_91 6 (ci := 4) rfl rfl (m_X4_firstMoment lau G ad T n mo ver (S, h) P Tr Rg Tx Rd li (by omega) (by omega) hR) (by decide) rfl rfl (Nat.le_of_ble_eq_true rfl) ⟨Nat.zero_le _, Nat.zero_le _⟩ (fun r14 u15 w16 => ?_)
        obtain ⟨rfl, h17⟩ := w16
        exact v_iret F hr hlk hQ dX7_line_94 ((P, Tr, u15)) rfl (by refine ⟨?_, hP, hC, h17⟩; simp [linV])
      · refine v_tableOut F 95 dX7_line_42 (tsw6 hw6) (by decide) ?_
        refine v_aload_n F dX7_line_95 0 rfl rfl ?_
        refine v_get (v := .ref (ad 1)) F inlX7 (ci := 7) rfl 0 (by decide) rfl wF_RX7_10 dX7_line_96 0 rfl rfl ?_
        refine v_iload_n F dX7_line_99 1 rfl rfl ?_
        refine v_iload_n F dX7_line_100 2 rfl rfl ?_
        refine v_cVIF F cs_RX7_105 dX7_line_101 1 (ci := 1) rfl rfl (m_X1_property lau G ad T n mo ver (S, h) P Tr Rg Tx Rd li wj (by omega) (by omega) (by omega)) (by decide) rfl rfl (Nat.le_of_ble_eq_true rfl) ⟨Nat.zero_le _, Nat.zero_le _⟩ (fun r18 u19 w20 => ?_)
        subst w20
        exact v_iret F hr hlk hQ dX7_line_104 ((P, Tr, Rg)) rfl (by refine ⟨?_, hP, hC, hR⟩; simp [linV, show ¬ wj = 6 by omega, show ¬ wj = 7 by omega, show ¬ wj = 8 by omega])
    · replace c5 := nKn (a := wj) (b := 8) (by omega) (by decide) c5
      omega
theorem cs_RX7_196 : CSV RX7 196 RX1 yX1_lowestBut cX1_lowestBut 8 (some .int) 3 := ⟨wC_yX1_lowestBut, wM_RX7_196, wIm_yX1_lowestBut, wSe_yX1_lowestBut, wI_RX1, by decide +kernel, by decide⟩
set_option maxHeartbeats 4000000 in
set_option maxRecDepth 100000 in
theorem m_X7_lowest (lau : Launch) (G : GT) (ad : Nat → Nat) (T : Nat → Int32) (n mo ver : Nat) (S : Nat → Int32) (h : Nat) (P : PT) (Tr : TT) (Rg : RT) (Tx : XT) (Rd : DT) (x : Nat) (t : Nat) (hb0 : x < 64) (hb1 : t < 100) (hn : n ≤ 20) (hT : TOK T n) (hP : PCI T n mo ver P) (hC : TCI T n mo ver Tr) (hR : RCI T n ver Rg) : MI lau G 13 yX7_lowest cX7_lowest 3 (some .int) [.ref (ad 0), .int (nI x), .int (nI t)] (wC ad G (T, n, mo, ver) (S, h) P Tr Rg Tx Rd) (fun u : PT × TT × RT => wC ad G (T, n, mo, ver) (S, h) u.1 u.2.1 u.2.2 Tx Rd) (fun r u => r = oI (lb T x t (-1) n) ∧ PCI T n mo ver u.1 ∧ TCI T n mo ver u.2.1 ∧ RCI T n ver u.2.2) := by
  refine mi_of (by decide +kernel) (Nat.le_of_ble_eq_true rfl) ?_
  intro p e s m args below meth c A Q F hr hlk hQ
  refine v_st (w' := wC ad G (T, n, mo, ver) (S, h) P Tr Rg Tx Rd) (pc' := 0) (st' := []) rfl rfl rfl [0, 1, 2] (lv' := [(0, .ref (ad 0)), (1, .int (nI x)), (2, .int (nI t))]) rfl ?_
  refine v_iload_n F dX7_lowest_0 1 rfl rfl ?_
  refine v_cSIE F cs_RX7_115 dX7_lowest_1 (m_X7_isPlace lau G (nI x) ) (by decide) rfl rfl (Nat.le_of_ble_eq_true rfl) ⟨Nat.zero_le _, Nat.zero_le _⟩ (fun r1 u2 w3 => ?_)
  subst w3
  refine v_topi (bI true) (congrArg bI (plB_t hb0)) ?_
  refine v_if_eq F 14 dX7_lowest_4 (by decide) (fun h => absurd h (by decide)) (fun _ => ?_)
  refine v_iload_n F dX7_lowest_7 2 rfl rfl ?_
  refine v_cSIE F cs_RX7_136 dX7_lowest_8 (m_X7_isMoment lau G (nI t) ) (by decide) rfl rfl (Nat.le_of_ble_eq_true rfl) ⟨Nat.zero_le _, Nat.zero_le _⟩ (fun r4 u5 w6 => ?_)
  subst w6
  refine v_topi (bI true) (congrArg bI (moB_t hb1)) ?_
  refine v_if_ne F 24 dX7_lowest_11 (by decide) (fun _ => ?_) (fun h => absurd h (by decide))
  refine v_aload_n F dX7_lowest_24 0 rfl rfl ?_
  refine v_get (v := .ref (ad 1)) F inlX7 (ci := 7) rfl 0 (by decide) rfl wF_RX7_10 dX7_lowest_25 0 rfl rfl ?_
  refine v_iconst (v := (-1)) F dX7_lowest_28 (by decide) ?_
  refine v_iload_n F dX7_lowest_29 1 rfl rfl ?_
  refine v_iload_n F dX7_lowest_30 2 rfl rfl ?_
  refine v_cVIF F cs_RX7_196 dX7_lowest_31 1 (ci := 1) rfl rfl (m_X1_lowestBut lau G ad T n mo ver (S, h) P Tr Rg Tx Rd (-1) x t (by omega)) (by decide) rfl rfl (Nat.le_of_ble_eq_true rfl) ⟨Nat.zero_le _, Nat.zero_le _⟩ (fun r7 u8 w9 => ?_)
  subst w9
  exact v_iret F hr hlk hQ dX7_lowest_34 ((P, Tr, Rg)) rfl (by refine ⟨?_, hP, hC, hR⟩; rfl)
set_option maxHeartbeats 4000000 in
set_option maxRecDepth 100000 in
theorem x_X7_value (lau : Launch) (G : GT) (ad : Nat → Nat) (T : Nat → Int32) (n mo ver : Nat) (S : Nat → Int32) (h : Nat) (P : PT) (Tr : TT) (Rg : RT) (Tx : XT) (Rd : DT) (x_ : Int32) (hn : n ≤ 20) (hT : TOK T n) (hP : PCI T n mo ver P) (hC : TCI T n mo ver Tr) (hR : RCI T n ver Rg) (hst : lau.stackTraces = false) : XI lau G 13 yX7_value cX7_value 3 (some .int) [.ref (ad 0), .int x_] (wC ad G (T, n, mo, ver) (S, h) P Tr Rg Tx Rd) (fun u : PT × TT × RT => wC ad G (T, n, mo, ver) (S, h) u.1 u.2.1 u.2.2 Tx Rd) (fun r u => xVal T n mo x_ = 0 ∧ r = oV T x_.toNatClampNeg (lb T x_.toNatClampNeg mo (-1) n) ∧ PCI T n mo ver u.1 ∧ TCI T n mo ver u.2.1 ∧ RCI T n ver u.2.2) (fun u : PT × TT × RT => wC ad G (T, n, mo, ver) (S, h) u.1 u.2.1 u.2.2 Tx Rd) (fun E u => ((xVal T n mo x_ = 1 ∧ E = sIAE) ∨ (xVal T n mo x_ = 2 ∧ E = sISE)) ∧ PCI T n mo ver u.1 ∧ TCI T n mo ver u.2.1 ∧ RCI T n ver u.2.2) := by
  refine xi_of (by decide +kernel) (Nat.le_of_ble_eq_true rfl) ?_
  intro p e s m args below meth c A Q F hr hlk hQ hSF hSH htab
  refine v_st (w' := wC ad G (T, n, mo, ver) (S, h) P Tr Rg Tx Rd) (pc' := 0) (st' := []) rfl rfl rfl [0, 1] (lv' := [(0, .ref (ad 0)), (1, .int x_)]) rfl ?_
  refine v_iload_n F dX7_value_0 1 rfl rfl ?_
  refine v_cSIE F cs_RX7_115 dX7_value_1 (m_X7_isPlace lau G x_ ) (by decide) rfl rfl (Nat.le_of_ble_eq_true rfl) ⟨Nat.zero_le _, Nat.zero_le _⟩ (fun r1 u2 w3 => ?_)
  subst w3
  refine v_if_ne F 17 dX7_value_4 (by decide) (fun c4 => ?_) (fun c4 => ?_)
  · replace c4 := bI_t c4
    obtain ⟨x, hb0, rfl⟩ := plB_of c4
    have hc_x : (nI x).toNatClampNeg = x := nI_clamp (by omega)
    refine v_aload_n F dX7_value_17 0 rfl rfl ?_
    refine v_get (v := .ref (ad 4)) F inlX7 (ci := 7) rfl 3 (by decide) rfl wF_RX7_35 dX7_value_18 0 rfl rfl ?_
    refine v_iload_n F dX7_value_21 1 rfl rfl ?_
    refine v_cVIF F cs_RX7_202 dX7_value_22 4 (ci := 2) rfl rfl (m_X2_lineAt lau G ad T n mo ver (S, h) P Tr Rg Tx Rd x (by omega) (by omega) hP) (by decide) rfl rfl (Nat.le_of_ble_eq_true rfl) ⟨Nat.zero_le _, Nat.zero_le _⟩ (fun r5 u6 w7 => ?_)
    obtain ⟨rfl, h8⟩ := w7
    rcases hg : lb T (x) mo (-1) n with _ | g
    · refine v_topi (-1) (plo_n hg) ?_
      refine v_istore_n (lv' := [(2, .int (-1)), (0, .ref (ad 0)), (1, .int (nI x))]) F dX7_value_25 2 rfl (by decide) rfl ?_
      refine v_iload_n F dX7_value_26 2 rfl rfl ?_
      refine v_iconst (v := (-1)) F dX7_value_27 (by decide) ?_
      refine v_icmp_ne F 41 dX7_value_28 (by decide) (fun h => absurd h (by decide)) (fun _ => ?_)
      exact v_throw (text := "no line counts there") F hlk hQ hst hSF hSH htab (by decide +kernel) wL_RX7_71 wI_IllegalStateException (by decide) xg_ISE xb_ISE xo_ISE dX7_value_31 dX7_value_34 dX7_value_35 dX7_value_37 dX7_value_40 (by decide) (Nat.le_of_ble_eq_true rfl) (by decide) (by decide) ((u6, Tr, Rg)) rfl (by refine ⟨?_, h8, hC, hR⟩; first | (refine Or.inl ⟨?_, rfl⟩; simp [xVal, *]; done) | (refine Or.inr (Or.inl ⟨?_, rfl⟩); simp [xVal, *]; done) | (refine Or.inr ⟨?_, rfl⟩; simp [xVal, *]; done) | (refine ⟨?_, rfl⟩; simp [xVal, *]; done))
    · have hgl := lb_lt _ _ _ _ _ _ hg
      refine v_topi (nI g) (plo_s hg) ?_
      refine v_istore_n (lv' := [(2, .int (nI g)), (0, .ref (ad 0)), (1, .int (nI x))]) F dX7_value_25 2 rfl (by decide) rfl ?_
      refine v_iload_n F dX7_value_26 2 rfl rfl ?_
      refine v_iconst (v := (-1)) F dX7_value_27 (by decide) ?_
      refine v_icmp_ne F 41 dX7_value_28 (by decide) (fun c9 => ?_) (fun c9 => ?_)
      · refine v_aload_n F dX7_value_41 0 rfl rfl ?_
        refine v_get (v := .ref (ad 1)) F inlX7 (ci := 7) rfl 0 (by decide) rfl wF_RX7_10 dX7_value_42 0 rfl rfl ?_
        refine v_iload_n F dX7_value_45 2 rfl rfl ?_
        refine v_iload_n F dX7_value_46 1 rfl rfl ?_
        refine v_cVIF F cs_RX7_120 dX7_value_47 1 (ci := 1) rfl rfl (m_X1_valueAt lau G ad T n mo ver (S, h) u6 Tr Rg Tx Rd g x (by omega) (by omega)) (by decide) rfl rfl (Nat.le_of_ble_eq_true rfl) ⟨Nat.zero_le _, Nat.zero_le _⟩ (fun r10 u11 w12 => ?_)
        subst w12
        exact v_iretX F hr hlk hQ dX7_value_50 ((u6, Tr, Rg)) rfl (by refine ⟨by first | assumption | simp [xVal, *], ?_, h8, hC, hR⟩; (try simp only [hc_x]) <;> (exact gVal_s hg))
      · exact absurd c9 (nI_ne1 (by omega))
  · replace c4 := bI_f c4
    exact v_throw (text := "place out of range") F hlk hQ hst hSF hSH htab (by decide +kernel) wL_RX7_60 wI_IllegalArgumentException (by decide) xg_IAE xb_IAE xo_IAE dX7_value_7 dX7_value_10 dX7_value_11 dX7_value_13 dX7_value_16 (by decide) (Nat.le_of_ble_eq_true rfl) (by decide) (by decide) ((P, Tr, Rg)) rfl (by refine ⟨?_, hP, hC, hR⟩; first | (refine Or.inl ⟨?_, rfl⟩; simp [xVal, *]; done) | (refine Or.inr (Or.inl ⟨?_, rfl⟩); simp [xVal, *]; done) | (refine Or.inr ⟨?_, rfl⟩; simp [xVal, *]; done) | (refine ⟨?_, rfl⟩; simp [xVal, *]; done))
theorem cs_RX7_209 : CSV RX7 209 RX1 yX1_counts cX1_counts 5 (some .boolean) 3 := ⟨wC_yX1_counts, wM_RX7_209, wIm_yX1_counts, wSe_yX1_counts, wI_RX1, by decide +kernel, by decide⟩
theorem cs_RX7_212 : CSV RX7 212 RX1 yX1_rankOf cX1_rankOf 5 (some .int) 2 := ⟨wC_yX1_rankOf, wM_RX7_212, wIm_yX1_rankOf, wSe_yX1_rankOf, wI_RX1, by decide +kernel, by decide⟩
set_option maxHeartbeats 4000000 in
set_option maxRecDepth 100000 in
theorem m_X7_ranked (lau : Launch) (G : GT) (ad : Nat → Nat) (T : Nat → Int32) (n mo ver : Nat) (S : Nat → Int32) (h : Nat) (P : PT) (Tr : TT) (Rg : RT) (Tx : XT) (Rd : DT) (x : Nat) (rk : Nat) (hb0 : x < 64) (hb1 : rk < 2147483648) (hn : n ≤ 20) (hT : TOK T n) (hP : PCI T n mo ver P) (hC : TCI T n mo ver Tr) (hR : RCI T n ver Rg) : MI lau G 13 yX7_ranked cX7_ranked 4 (some .int) [.ref (ad 0), .int (nI x), .int (nI rk)] (wC ad G (T, n, mo, ver) (S, h) P Tr Rg Tx Rd) (fun u : PT × TT × RT => wC ad G (T, n, mo, ver) (S, h) u.1 u.2.1 u.2.2 Tx Rd) (fun r u => r = rkV T n mo x rk ∧ PCI T n mo ver u.1 ∧ TCI T n mo ver u.2.1 ∧ RCI T n ver u.2.2) := by
  refine mi_of (by decide +kernel) (Nat.le_of_ble_eq_true rfl) ?_
  intro p e s m args below meth c A Q F hr hlk hQ
  refine v_st (w' := wC ad G (T, n, mo, ver) (S, h) P Tr Rg Tx Rd) (pc' := 0) (st' := []) rfl rfl rfl [0, 1, 2] (lv' := [(0, .ref (ad 0)), (1, .int (nI x)), (2, .int (nI rk))]) rfl ?_
  refine v_iload_n F dX7_ranked_0 1 rfl rfl ?_
  refine v_cSIE F cs_RX7_115 dX7_ranked_1 (m_X7_isPlace lau G (nI x) ) (by decide) rfl rfl (Nat.le_of_ble_eq_true rfl) ⟨Nat.zero_le _, Nat.zero_le _⟩ (fun r1 u2 w3 => ?_)
  subst w3
  refine v_topi (bI true) (congrArg bI (plB_t hb0)) ?_
  refine v_if_eq F 11 dX7_ranked_4 (by decide) (fun h => absurd h (by decide)) (fun _ => ?_)
  refine v_iload_n F dX7_ranked_7 2 rfl rfl ?_
  refine v_if_ge F 21 dX7_ranked_8 (by decide) (fun c4 => ?_) (fun c4 => ?_)
  · replace c4 := nG (a := rk) (b := 0) (by omega) (by decide) c4
    refine v_iconst (v := nI 0) F dX7_ranked_21 (by decide) ?_
    refine v_istore_n (lv' := [(3, .int (nI 0)), (0, .ref (ad 0)), (1, .int (nI x)), (2, .int (nI rk))]) F dX7_ranked_22 3 rfl (by decide) rfl ?_
    have L23 : ∀ (k_ : Nat) (i : Nat), n - i < k_ → (i ≤ n) → (∀ j, j < i → rkP T n mo x rk j = false) → V p lau e (RM 13) s m args below meth c 4 G A Q (wC ad G (T, n, mo, ver) (S, h) P Tr Rg Tx Rd) 0 0 23 [(3, .int (nI i)), (0, .ref (ad 0)), (1, .int (nI x)), (2, .int (nI rk))] [] := by
      intro k_
      induction k_ with
      | zero => exact fun i hk_ hi hno => absurd hk_ (Nat.not_lt_zero _)
      | succ k_ ih23 =>
        intro i hk_23 hi hno
        have hrb := rnk_le T i x mo n
        refine v_iload_n F dX7_ranked_23 3 rfl rfl ?_
        refine v_aload_n F dX7_ranked_24 0 rfl rfl ?_
        refine v_get (v := .ref (ad 1)) F inlX7 (ci := 7) rfl 0 (by decide) rfl wF_RX7_10 dX7_ranked_25 0 rfl rfl ?_
        refine v_cVIF F cs_RX7_67 dX7_ranked_28 1 (ci := 1) rfl rfl (m_X1_size lau G ad T n mo ver (S, h) P Tr Rg Tx Rd ) (by decide) rfl rfl (Nat.le_of_ble_eq_true rfl) ⟨Nat.zero_le _, Nat.zero_le _⟩ (fun r5 u6 w7 => ?_)
        subst w7
        refine v_icmp_ge F 74 dX7_ranked_31 (by decide) (fun c8 => ?_) (fun c8 => ?_)
        · replace c8 := nG (a := i) (b := n) (by omega) (by omega) c8
          refine v_iconst (v := (-1)) F dX7_ranked_74 (by decide) ?_
          exact v_iret F hr hlk hQ dX7_ranked_75 ((P, Tr, Rg)) rfl (by refine ⟨?_, hP, hC, hR⟩; exact orN_n (by omega) hno)
        · replace c8 := nGn (a := i) (b := n) (by omega) (by omega) c8
          refine v_aload_n F dX7_ranked_34 0 rfl rfl ?_
          refine v_get (v := .ref (ad 1)) F inlX7 (ci := 7) rfl 0 (by decide) rfl wF_RX7_10 dX7_ranked_35 0 rfl rfl ?_
          refine v_iload_n F dX7_ranked_38 3 rfl rfl ?_
          refine v_iload_n F dX7_ranked_39 1 rfl rfl ?_
          refine v_aload_n F dX7_ranked_40 0 rfl rfl ?_
          refine v_get (v := .ref (ad 1)) F inlX7 (ci := 7) rfl 0 (by decide) rfl wF_RX7_10 dX7_ranked_41 0 rfl rfl ?_
          refine v_cVIF F cs_RX7_141 dX7_ranked_44 1 (ci := 1) rfl rfl (m_X1_moment lau G ad T n mo ver (S, h) P Tr Rg Tx Rd ) (by decide) rfl rfl (Nat.le_of_ble_eq_true rfl) ⟨Nat.zero_le _, Nat.zero_le _⟩ (fun r9 u10 w11 => ?_)
          subst w11
          refine v_cVIF F cs_RX7_209 dX7_ranked_47 1 (ci := 1) rfl rfl (m_X1_counts lau G ad T n mo ver (S, h) P Tr Rg Tx Rd i x mo (by omega) (by omega)) (by decide) rfl rfl (Nat.le_of_ble_eq_true rfl) ⟨Nat.zero_le _, Nat.zero_le _⟩ (fun r12 u13 w14 => ?_)
          subst w14
          refine v_if_eq F 68 dX7_ranked_50 (by decide) (fun hct => ?_) (fun hct => ?_)
          · replace hct := bI_f hct
            refine v_iinc (lv' := [(3, .int (nI (i + 1))), (0, .ref (ad 0)), (1, .int (nI x)), (2, .int (nI rk))]) F (nI (i + 1)) dX7_ranked_68 rfl (nI_add i 1) (by decide) rfl ?_
            refine v_goto F 23 dX7_ranked_71 (by decide) ?_
            refine v_st (w' := wC ad G (T, n, mo, ver) (S, h) P Tr Rg Tx Rd) (pc' := 23) (st' := []) rfl rfl rfl [0, 1, 2, 3] (lv' := [(3, .int (nI (i + 1))), (0, .ref (ad 0)), (1, .int (nI x)), (2, .int (nI rk))]) rfl ?_
            exact ih23 (i + 1) (by omega) (by omega) (lf_s hno (by simp [rkP, *]))
          · replace hct := bI_t hct
            refine v_aload_n F dX7_ranked_53 0 rfl rfl ?_
            refine v_get (v := .ref (ad 1)) F inlX7 (ci := 7) rfl 0 (by decide) rfl wF_RX7_10 dX7_ranked_54 0 rfl rfl ?_
            refine v_iload_n F dX7_ranked_57 3 rfl rfl ?_
            refine v_iload_n F dX7_ranked_58 1 rfl rfl ?_
            refine v_cVIF F cs_RX7_212 dX7_ranked_59 1 (ci := 1) rfl rfl (m_X1_rankOf lau G ad T n mo ver (S, h) P Tr Rg Tx Rd i x (by omega) (by omega) hT (by omega)) (by decide) rfl rfl (Nat.le_of_ble_eq_true rfl) ⟨Nat.zero_le _, Nat.zero_le _⟩ (fun r15 u16 w17 => ?_)
            subst w17
            refine v_iload_n F dX7_ranked_62 2 rfl rfl ?_
            refine v_icmp_ne F 68 dX7_ranked_63 (by decide) (fun hrk => ?_) (fun hrk => ?_)
            · replace hrk := nEn (a := (rnk T i x mo n)) (b := rk) (by omega) (by omega) hrk
              refine v_iinc (lv' := [(3, .int (nI (i + 1))), (0, .ref (ad 0)), (1, .int (nI x)), (2, .int (nI rk))]) F (nI (i + 1)) dX7_ranked_68 rfl (nI_add i 1) (by decide) rfl ?_
              refine v_goto F 23 dX7_ranked_71 (by decide) ?_
              refine v_st (w' := wC ad G (T, n, mo, ver) (S, h) P Tr Rg Tx Rd) (pc' := 23) (st' := []) rfl rfl rfl [0, 1, 2, 3] (lv' := [(3, .int (nI (i + 1))), (0, .ref (ad 0)), (1, .int (nI x)), (2, .int (nI rk))]) rfl ?_
              exact ih23 (i + 1) (by omega) (by omega) (lf_s hno (by simp [rkP, *]))
            · replace hrk := nE (a := (rnk T i x mo n)) (b := rk) (by omega) (by omega) hrk
              refine v_iload_n F dX7_ranked_66 3 rfl rfl ?_
              exact v_iret F hr hlk hQ dX7_ranked_67 ((P, Tr, Rg)) rfl (by refine ⟨?_, hP, hC, hR⟩; exact orN_y (by omega) (by simp [rkP, *]) hno)
    refine v_st (w' := wC ad G (T, n, mo, ver) (S, h) P Tr Rg Tx Rd) (pc' := 23) (st' := []) rfl rfl rfl [0, 1, 2, 3] (lv' := [(3, .int (nI 0)), (0, .ref (ad 0)), (1, .int (nI x)), (2, .int (nI rk))]) rfl ?_
    exact L23 _ 0 (Nat.lt_succ_self _) (by omega) (fun j hj => absurd hj (Nat.not_lt_zero j))
  · replace c4 := nGn (a := rk) (b := 0) (by omega) (by decide) c4
    exact absurd c4 (Nat.not_lt_zero _)
theorem cs_RX7_217 : CSV RX7 217 RX6 yX6_lineOf cX6_lineOf 2 (some .int) 1 := ⟨wC_yX6_lineOf, wM_RX7_217, wIm_yX6_lineOf, wSe_yX6_lineOf, wI_RX6, by decide +kernel, by decide⟩
theorem cs_RX7_220 : CSV RX7 220 RX6 yX6_firstPlace cX6_firstPlace 2 (some .int) 1 := ⟨wC_yX6_firstPlace, wM_RX7_220, wIm_yX6_firstPlace, wSe_yX6_firstPlace, wI_RX6, by decide +kernel, by decide⟩
theorem cs_RX7_223 : CSV RX7 223 RX6 yX6_lastPlace cX6_lastPlace 2 (some .int) 1 := ⟨wC_yX6_lastPlace, wM_RX7_223, wIm_yX6_lastPlace, wSe_yX6_lastPlace, wI_RX6, by decide +kernel, by decide⟩
theorem cs_RX7_226 : CSV RX7 226 RX6 yX6_middle cX6_middle 2 (some .int) 1 := ⟨wC_yX6_middle, wM_RX7_226, wIm_yX6_middle, wSe_yX6_middle, wI_RX6, by decide +kernel, by decide⟩
theorem cs_RX7_229 : CSV RX7 229 RX6 yX6_stepsAt cX6_stepsAt 2 (some .int) 1 := ⟨wC_yX6_stepsAt, wM_RX7_229, wIm_yX6_stepsAt, wSe_yX6_stepsAt, wI_RX6, by decide +kernel, by decide⟩
set_option maxHeartbeats 4000000 in
set_option maxRecDepth 100000 in
theorem m_X7_node (lau : Launch) (G : GT) (ad : Nat → Nat) (T : Nat → Int32) (n mo ver : Nat) (S : Nat → Int32) (h : Nat) (P : PT) (Tr : TT) (Rg : RT) (Tx : XT) (Rd : DT) (k : Nat) (wj : Nat) (hb0 : 1 ≤ k ∧ k ≤ 127) (hb1 : wj ≤ 4) (hn : n ≤ 20) (hT : TOK T n) (hP : PCI T n mo ver P) (hC : TCI T n mo ver Tr) (hR : RCI T n ver Rg) : MI lau G 14 yX7_node cX7_node 3 (some .int) [.ref (ad 0), .int (nI k), .int (nI wj)] (wC ad G (T, n, mo, ver) (S, h) P Tr Rg Tx Rd) (fun u : PT × TT × RT => wC ad G (T, n, mo, ver) (S, h) u.1 u.2.1 u.2.2 Tx Rd) (fun r u => r = ndV T n mo k wj ∧ PCI T n mo ver u.1 ∧ TCI T n mo ver u.2.1 ∧ RCI T n ver u.2.2) := by
  refine mi_of (by decide +kernel) (Nat.le_of_ble_eq_true rfl) ?_
  intro p e s m args below meth c A Q F hr hlk hQ
  refine v_st (w' := wC ad G (T, n, mo, ver) (S, h) P Tr Rg Tx Rd) (pc' := 0) (st' := []) rfl rfl rfl [0, 1, 2] (lv' := [(0, .ref (ad 0)), (1, .int (nI k)), (2, .int (nI wj))]) rfl ?_
  refine v_iload_n F dX7_node_0 1 rfl rfl ?_
  refine v_iconst (v := nI 1) F dX7_node_1 (by decide) ?_
  refine v_icmp_lt F 11 dX7_node_2 (by decide) (fun c1 => ?_) (fun c1 => ?_)
  · replace c1 := nL (a := k) (b := 1) (by omega) (by decide) c1
    omega
  · replace c1 := nLn (a := k) (b := 1) (by omega) (by decide) c1
    refine v_iload_n F dX7_node_5 1 rfl rfl ?_
    refine v_bipush (v := nI 127) F dX7_node_6 (by decide) ?_
    refine v_icmp_le F 21 dX7_node_8 (by decide) (fun c2 => ?_) (fun c2 => ?_)
    · replace c2 := nK (a := k) (b := 127) (by omega) (by decide) c2
      refine v_iload_n F dX7_node_21 2 rfl rfl ?_
      refine v_if_lt F 30 dX7_node_22 (by decide) (fun c3 => ?_) (fun c3 => ?_)
      · replace c3 := nL (a := wj) (b := 0) (by omega) (by decide) c3
        exact absurd c3 (Nat.not_lt_zero _)
      · replace c3 := nLn (a := wj) (b := 0) (by omega) (by decide) c3
        refine v_iload_n F dX7_node_25 2 rfl rfl ?_
        refine v_iconst (v := nI 4) F dX7_node_26 (by decide) ?_
        refine v_icmp_le F 40 dX7_node_27 (by decide) (fun c4 => ?_) (fun c4 => ?_)
        · replace c4 := nK (a := wj) (b := 4) (by omega) (by decide) c4
          refine v_iload_n F dX7_node_40 2 rfl rfl ?_
          rcases (show wj = 0 ∨ wj = 1 ∨ wj = 2 ∨ wj = 3 ∨ wj = 4 by omega) with rfl | rfl | rfl | rfl | rfl
          · refine v_tableIn F 72 dX7_node_41 (by decide) (by decide) rfl (by decide) ?_
            refine v_aload_n F dX7_node_72 0 rfl rfl ?_
            refine v_get (v := .ref (ad 5)) F inlX7 (ci := 7) rfl 4 (by decide) rfl wF_RX7_42 dX7_node_73 0 rfl rfl ?_
            refine v_iload_n F dX7_node_76 1 rfl rfl ?_
            refine v_cVIF F cs_RX7_217 dX7_node_77 5 (ci := 6) rfl rfl (m_X6_lineOf lau G ad T n mo ver (S, h) P Tr Rg Tx Rd k (by omega) (by omega) (by omega) hT hC) (by decide) rfl rfl (Nat.le_of_ble_eq_true rfl) ⟨Nat.zero_le _, Nat.zero_le _⟩ (fun r5 u6 w7 => ?_)
            obtain ⟨rfl, h8⟩ := w7
            exact v_iret F hr hlk hQ dX7_node_80 ((P, u6, Rg)) rfl (by refine ⟨?_, hP, h8, hR⟩; simp [ndV]; try omega)
          · refine v_tableIn F 81 dX7_node_41 (by decide) (by decide) rfl (by decide) ?_
            refine v_aload_n F dX7_node_81 0 rfl rfl ?_
            refine v_get (v := .ref (ad 5)) F inlX7 (ci := 7) rfl 4 (by decide) rfl wF_RX7_42 dX7_node_82 0 rfl rfl ?_
            refine v_iload_n F dX7_node_85 1 rfl rfl ?_
            refine v_cVIF F cs_RX7_220 dX7_node_86 5 (ci := 6) rfl rfl (m_X6_firstPlace lau G ad (T, n, mo, ver) (S, h) P Tr.1 Tr.2.1 Tr.2.2.1 Tr.2.2.2.1 Tr.2.2.2.2 Rg Tx Rd k (by omega) (by omega) hC.1) (by decide) rfl rfl (Nat.le_of_ble_eq_true rfl) ⟨Nat.zero_le _, Nat.zero_le _⟩ (fun r9 u10 w11 => ?_)
            subst w11
            exact v_iret F hr hlk hQ dX7_node_89 ((P, Tr, Rg)) rfl (by refine ⟨?_, hP, hC, hR⟩; simp [ndV]; try omega)
          · refine v_tableIn F 90 dX7_node_41 (by decide) (by decide) rfl (by decide) ?_
            refine v_aload_n F dX7_node_90 0 rfl rfl ?_
            refine v_get (v := .ref (ad 5)) F inlX7 (ci := 7) rfl 4 (by decide) rfl wF_RX7_42 dX7_node_91 0 rfl rfl ?_
            refine v_iload_n F dX7_node_94 1 rfl rfl ?_
            refine v_cVIF F cs_RX7_223 dX7_node_95 5 (ci := 6) rfl rfl (m_X6_lastPlace lau G ad (T, n, mo, ver) (S, h) P Tr.1 Tr.2.1 Tr.2.2.1 Tr.2.2.2.1 Tr.2.2.2.2 Rg Tx Rd k (by omega) (by omega) hC.1) (by decide) rfl rfl (Nat.le_of_ble_eq_true rfl) ⟨Nat.zero_le _, Nat.zero_le _⟩ (fun r12 u13 w14 => ?_)
            subst w14
            exact v_iret F hr hlk hQ dX7_node_98 ((P, Tr, Rg)) rfl (by refine ⟨?_, hP, hC, hR⟩; simp [ndV]; try omega)
          · refine v_tableIn F 99 dX7_node_41 (by decide) (by decide) rfl (by decide) ?_
            refine v_aload_n F dX7_node_99 0 rfl rfl ?_
            refine v_get (v := .ref (ad 5)) F inlX7 (ci := 7) rfl 4 (by decide) rfl wF_RX7_42 dX7_node_100 0 rfl rfl ?_
            refine v_iload_n F dX7_node_103 1 rfl rfl ?_
            refine v_cVIF F cs_RX7_226 dX7_node_104 5 (ci := 6) rfl rfl (m_X6_middle lau G ad (T, n, mo, ver) (S, h) P Tr.1 Tr.2.1 Tr.2.2.1 Tr.2.2.2.1 Tr.2.2.2.2 Rg Tx Rd k (by omega) (by omega) hC.1) (by decide) rfl rfl (Nat.le_of_ble_eq_true rfl) ⟨Nat.zero_le _, Nat.zero_le _⟩ (fun r15 u16 w17 => ?_)
            subst w17
            exact v_iret F hr hlk hQ dX7_node_107 ((P, Tr, Rg)) rfl (by refine ⟨?_, hP, hC, hR⟩; simp [ndV]; try omega)
          · refine v_tableOut F 108 dX7_node_41 (by decide) (by decide) ?_
            refine v_aload_n F dX7_node_108 0 rfl rfl ?_
            refine v_get (v := .ref (ad 5)) F inlX7 (ci := 7) rfl 4 (by decide) rfl wF_RX7_42 dX7_node_109 0 rfl rfl ?_
            refine v_iload_n F dX7_node_112 1 rfl rfl ?_
            refine v_cVIF F cs_RX7_229 dX7_node_113 5 (ci := 6) rfl rfl (m_X6_stepsAt lau G ad T n mo ver (S, h) P Tr Rg Tx Rd k (by omega) (by omega) (by omega) hT hC) (by decide) rfl rfl (Nat.le_of_ble_eq_true rfl) ⟨Nat.zero_le _, Nat.zero_le _⟩ (fun r18 u19 w20 => ?_)
            obtain ⟨rfl, h21⟩ := w20
            exact v_iret F hr hlk hQ dX7_node_116 ((P, u19, Rg)) rfl (by refine ⟨?_, hP, h21, hR⟩; simp [ndV]; try omega)
        · replace c4 := nKn (a := wj) (b := 4) (by omega) (by decide) c4
          omega
    · replace c2 := nKn (a := k) (b := 127) (by omega) (by decide) c2
      omega
theorem cs_RX7_237 : CSV RX7 237 RX2 yX2_rowStart cX2_rowStart 2 (some .int) 1 := ⟨wC_yX2_rowStart, wM_RX7_237, wIm_yX2_rowStart, wSe_yX2_rowStart, wI_RX2, by decide +kernel, by decide⟩
set_option maxHeartbeats 4000000 in
set_option maxRecDepth 100000 in
theorem m_X7_row (lau : Launch) (G : GT) (ad : Nat → Nat) (T : Nat → Int32) (n mo ver : Nat) (S : Nat → Int32) (h : Nat) (P : PT) (Tr : TT) (Rg : RT) (Tx : XT) (Rd : DT) (ro : Nat) (wj : Nat) (hb0 : ro < 2147483647) (hb1 : wj ≤ 2) (hn : n ≤ 20) (hT : TOK T n) (hP : PCI T n mo ver P) (hC : TCI T n mo ver Tr) (hR : RCI T n ver Rg) : MI lau G 13 yX7_row cX7_row 4 (some .int) [.ref (ad 0), .int (nI ro), .int (nI wj)] (wC ad G (T, n, mo, ver) (S, h) P Tr Rg Tx Rd) (fun u : PT × TT × RT => wC ad G (T, n, mo, ver) (S, h) u.1 u.2.1 u.2.2 Tx Rd) (fun r u => r = rowV T n mo ro wj ∧ PCI T n mo ver u.1 ∧ TCI T n mo ver u.2.1 ∧ RCI T n ver u.2.2) := by
  have hrc := rc_le T n mo 64
  refine mi_of (by decide +kernel) (Nat.le_of_ble_eq_true rfl) ?_
  intro p e s m args below meth c A Q F hr hlk hQ
  refine v_st (w' := wC ad G (T, n, mo, ver) (S, h) P Tr Rg Tx Rd) (pc' := 0) (st' := []) rfl rfl rfl [0, 1, 2] (lv' := [(0, .ref (ad 0)), (1, .int (nI ro)), (2, .int (nI wj))]) rfl ?_
  refine v_iload_n F dX7_row_0 1 rfl rfl ?_
  refine v_if_lt F 13 dX7_row_1 (by decide) (fun c1 => ?_) (fun c1 => ?_)
  · replace c1 := nL (a := ro) (b := 0) (by omega) (by decide) c1
    exact absurd c1 (Nat.not_lt_zero _)
  · replace c1 := nLn (a := ro) (b := 0) (by omega) (by decide) c1
    refine v_iload_n F dX7_row_4 2 rfl rfl ?_
    refine v_if_lt F 13 dX7_row_5 (by decide) (fun c2 => ?_) (fun c2 => ?_)
    · replace c2 := nL (a := wj) (b := 0) (by omega) (by decide) c2
      exact absurd c2 (Nat.not_lt_zero _)
    · replace c2 := nLn (a := wj) (b := 0) (by omega) (by decide) c2
      refine v_iload_n F dX7_row_8 2 rfl rfl ?_
      refine v_iconst (v := nI 2) F dX7_row_9 (by decide) ?_
      refine v_icmp_le F 23 dX7_row_10 (by decide) (fun c3 => ?_) (fun c3 => ?_)
      · replace c3 := nK (a := wj) (b := 2) (by omega) (by decide) c3
        refine v_iload_n F dX7_row_23 1 rfl rfl ?_
        refine v_aload_n F dX7_row_24 0 rfl rfl ?_
        refine v_get (v := .ref (ad 4)) F inlX7 (ci := 7) rfl 3 (by decide) rfl wF_RX7_35 dX7_row_25 0 rfl rfl ?_
        refine v_cVIF F cs_RX7_234 dX7_row_28 4 (ci := 2) rfl rfl (m_X2_rowCount lau G ad T n mo ver (S, h) P Tr Rg Tx Rd (by omega) hP) (by decide) rfl rfl (Nat.le_of_ble_eq_true rfl) ⟨Nat.zero_le _, Nat.zero_le _⟩ (fun r4 u5 w6 => ?_)
        obtain ⟨rfl, h7⟩ := w6
        refine v_icmp_lt F 36 dX7_row_31 (by decide) (fun c8 => ?_) (fun c8 => ?_)
        · replace c8 := nL (a := ro) (b := (rc T n mo 64)) (by omega) (by omega) c8
          have hrs := rowS_lt (T := T) (n := n) (mo := mo) c8
          refine v_aload_n F dX7_row_36 0 rfl rfl ?_
          refine v_get (v := .ref (ad 4)) F inlX7 (ci := 7) rfl 3 (by decide) rfl wF_RX7_35 dX7_row_37 0 rfl rfl ?_
          refine v_iload_n F dX7_row_40 1 rfl rfl ?_
          refine v_cVIF F cs_RX7_237 dX7_row_41 4 (ci := 2) rfl rfl (m_X2_rowStart lau G ad T n mo ver (S, h) u5 Tr Rg Tx Rd ro (by omega) (by omega) h7) (by decide) rfl rfl (Nat.le_of_ble_eq_true rfl) ⟨Nat.zero_le _, Nat.zero_le _⟩ (fun r9 u10 w11 => ?_)
          obtain ⟨rfl, h12⟩ := w11
          refine v_istore_n (lv' := [(3, .int (nI (rowS T n mo ro))), (0, .ref (ad 0)), (1, .int (nI ro)), (2, .int (nI wj))]) F dX7_row_44 3 rfl (by decide) rfl ?_
          refine v_iload_n F dX7_row_45 2 rfl rfl ?_
          rcases (show wj = 0 ∨ wj = 1 ∨ wj = 2 by omega) with rfl | rfl | rfl
          · refine v_lookup F 72 dX7_row_46 (by decide) (off := 26) (by decide) (by decide) ?_
            refine v_iload_n F dX7_row_72 3 rfl rfl ?_
            exact v_iret F hr hlk hQ dX7_row_73 ((u10, Tr, Rg)) rfl (by refine ⟨?_, h12, hC, hR⟩; simp [rowV, *])
          · refine v_lookup F 74 dX7_row_46 (by decide) (off := 28) (by decide) (by decide) ?_
            refine v_aload_n F dX7_row_74 0 rfl rfl ?_
            refine v_get (v := .ref (ad 4)) F inlX7 (ci := 7) rfl 3 (by decide) rfl wF_RX7_35 dX7_row_75 0 rfl rfl ?_
            refine v_iload_n F dX7_row_78 1 rfl rfl ?_
            refine v_iconst (v := nI 1) F dX7_row_79 (by decide) ?_
            refine v_iadd F dX7_row_80 ?_
            refine v_topi (nI (ro + 1)) (nI_add ro 1) ?_
            refine v_cVIF F cs_RX7_237 dX7_row_81 4 (ci := 2) rfl rfl (m_X2_rowStart lau G ad T n mo ver (S, h) u10 Tr Rg Tx Rd (ro + 1) (by omega) (by omega) h12) (by decide) rfl rfl (Nat.le_of_ble_eq_true rfl) ⟨Nat.zero_le _, Nat.zero_le _⟩ (fun r13 u14 w15 => ?_)
            obtain ⟨rfl, h16⟩ := w15
            refine v_iload_n F dX7_row_84 3 rfl rfl ?_
            refine v_isub F dX7_row_85 ?_
            exact v_iret F hr hlk hQ dX7_row_86 ((u14, Tr, Rg)) rfl (by refine ⟨?_, h16, hC, hR⟩; simp [rowV, *])
          · refine v_lookup F 87 dX7_row_46 (by decide) (off := 41) (by decide) (by decide) ?_
            refine v_aload_n F dX7_row_87 0 rfl rfl ?_
            refine v_get (v := .ref (ad 4)) F inlX7 (ci := 7) rfl 3 (by decide) rfl wF_RX7_35 dX7_row_88 0 rfl rfl ?_
            refine v_iload_n F dX7_row_91 3 rfl rfl ?_
            refine v_cVIF F cs_RX7_202 dX7_row_92 4 (ci := 2) rfl rfl (m_X2_lineAt lau G ad T n mo ver (S, h) u10 Tr Rg Tx Rd (rowS T n mo ro) (by omega) (by omega) h12) (by decide) rfl rfl (Nat.le_of_ble_eq_true rfl) ⟨Nat.zero_le _, Nat.zero_le _⟩ (fun r17 u18 w19 => ?_)
            obtain ⟨rfl, h20⟩ := w19
            exact v_iret F hr hlk hQ dX7_row_95 ((u18, Tr, Rg)) rfl (by refine ⟨?_, h20, hC, hR⟩; simp [rowV, *])
        · replace c8 := nLn (a := ro) (b := (rc T n mo 64)) (by omega) (by omega) c8
          refine v_iconst (v := (-1)) F dX7_row_34 (by decide) ?_
          exact v_iret F hr hlk hQ dX7_row_35 ((u5, Tr, Rg)) rfl (by refine ⟨?_, h7, hC, hR⟩; simp [rowV, show ¬ ro < rc T n mo 64 by omega])
      · replace c3 := nKn (a := wj) (b := 2) (by omega) (by decide) c3
        omega
set_option maxHeartbeats 4000000 in
set_option maxRecDepth 100000 in
theorem m_X7_worth (lau : Launch) (G : GT) (ad : Nat → Nat) (T : Nat → Int32) (n mo ver : Nat) (S : Nat → Int32) (h : Nat) (P : PT) (Tr : TT) (Rg : RT) (Tx : XT) (Rd : DT) (li : Nat) (hb0 : li < n) (hn : n ≤ 20) (hT : TOK T n) (hP : PCI T n mo ver P) (hC : TCI T n mo ver Tr) (hR : RCI T n ver Rg) : MI lau G 13 yX7_worth cX7_worth 5 (some .int) [.ref (ad 0), .int (nI li)] (wC ad G (T, n, mo, ver) (S, h) P Tr Rg Tx Rd) (fun u : PT × TT × RT => wC ad G (T, n, mo, ver) (S, h) u.1 u.2.1 u.2.2 Tx Rd) (fun r u => r = woV T n mo li ∧ PCI T n mo ver u.1 ∧ TCI T n mo ver u.2.1 ∧ RCI T n ver u.2.2) := by
  refine mi_of (by decide +kernel) (Nat.le_of_ble_eq_true rfl) ?_
  intro p e s m args below meth c A Q F hr hlk hQ
  refine v_st (w' := wC ad G (T, n, mo, ver) (S, h) P Tr Rg Tx Rd) (pc' := 0) (st' := []) rfl rfl rfl [0, 1] (lv' := [(0, .ref (ad 0)), (1, .int (nI li))]) rfl ?_
  refine v_aload_n F dX7_worth_0 0 rfl rfl ?_
  refine v_get (v := .ref (ad 1)) F inlX7 (ci := 7) rfl 0 (by decide) rfl wF_RX7_10 dX7_worth_1 0 rfl rfl ?_
  refine v_iload_n F dX7_worth_4 1 rfl rfl ?_
  refine v_cVIF F cs_RX7_83 dX7_worth_5 1 (ci := 1) rfl rfl (m_X1_has lau G ad T n mo ver (S, h) P Tr Rg Tx Rd (nI li) ) (by decide) rfl rfl (Nat.le_of_ble_eq_true rfl) ⟨Nat.zero_le _, Nat.zero_le _⟩ (fun r1 u2 w3 => ?_)
  subst w3
  refine v_topi (bI true) (hasB_t hb0 (by omega)) ?_
  refine v_if_ne F 21 dX7_worth_8 (by decide) (fun _ => ?_) (fun h => absurd h (by decide))
  refine v_iconst (v := nI 0) F dX7_worth_21 (by decide) ?_
  refine v_istore_n (lv' := [(2, .int (nI 0)), (0, .ref (ad 0)), (1, .int (nI li))]) F dX7_worth_22 2 rfl (by decide) rfl ?_
  refine v_iconst (v := nI 0) F dX7_worth_23 (by decide) ?_
  refine v_istore_n (lv' := [(3, .int (nI 0)), (2, .int (nI 0)), (0, .ref (ad 0)), (1, .int (nI li))]) F dX7_worth_24 3 rfl (by decide) rfl ?_
  have L25 : ∀ (k_ : Nat) (x : Nat) (P_ : PT) (k : Int32), 64 - x < k_ → (x ≤ 64) → (PCI T n mo ver P_) → (wo T n mo li x = some k) → V p lau e (RM 13) s m args below meth c 5 G A Q (wC ad G (T, n, mo, ver) (S, h) P_ Tr Rg Tx Rd) 0 0 25 [(3, .int (nI x)), (2, .int k), (0, .ref (ad 0)), (1, .int (nI li))] [] := by
    intro k_
    induction k_ with
    | zero => exact fun x P_ k hk_ hx hP_ hs => absurd hk_ (Nat.not_lt_zero _)
    | succ k_ ih25 =>
      intro x P_ k hk_25 hx hP_ hs
      refine v_iload_n F dX7_worth_25 3 rfl rfl ?_
      refine v_bipush (v := nI 64) F dX7_worth_26 (by decide) ?_
      refine v_icmp_ge F 98 dX7_worth_28 (by decide) (fun c4 => ?_) (fun c4 => ?_)
      · replace c4 := nG (a := x) (b := 64) (by omega) (by decide) c4
        refine v_iload_n F dX7_worth_98 2 rfl rfl ?_
        exact v_iret F hr hlk hQ dX7_worth_99 ((P_, Tr, Rg)) rfl (by refine ⟨?_, hP_, hC, hR⟩; exact woV_2 (by omega) hs)
      · replace c4 := nGn (a := x) (b := 64) (by omega) (by decide) c4
        refine v_aload_n F dX7_worth_31 0 rfl rfl ?_
        refine v_get (v := .ref (ad 4)) F inlX7 (ci := 7) rfl 3 (by decide) rfl wF_RX7_35 dX7_worth_32 0 rfl rfl ?_
        refine v_iload_n F dX7_worth_35 3 rfl rfl ?_
        refine v_cVIF F cs_RX7_202 dX7_worth_36 4 (ci := 2) rfl rfl (m_X2_lineAt lau G ad T n mo ver (S, h) P_ Tr Rg Tx Rd x (by omega) (by omega) hP_) (by decide) rfl rfl (Nat.le_of_ble_eq_true rfl) ⟨Nat.zero_le _, Nat.zero_le _⟩ (fun r5 u6 w7 => ?_)
        obtain ⟨rfl, h8⟩ := w7
        refine v_iload_n F dX7_worth_39 1 rfl rfl ?_
        refine v_icmp_ne F 92 dX7_worth_40 (by decide) (fun hpl => ?_) (fun hpl => ?_)
        · refine v_iinc (lv' := [(3, .int (nI (x + 1))), (2, .int k), (0, .ref (ad 0)), (1, .int (nI li))]) F (nI (x + 1)) dX7_worth_92 rfl (nI_add x 1) (by decide) rfl ?_
          refine v_goto F 25 dX7_worth_95 (by decide) ?_
          refine v_st (w' := wC ad G (T, n, mo, ver) (S, h) u6 Tr Rg Tx Rd) (pc' := 25) (st' := []) rfl rfl rfl [0, 1, 2, 3] (lv' := [(3, .int (nI (x + 1))), (2, .int k), (0, .ref (ad 0)), (1, .int (nI li))]) rfl ?_
          exact ih25 (x + 1) u6 k (by omega) (by omega) (h8) (by first | exact wo_a hs hpl | exact wo_b hs hpl hg)
        · refine v_aload_n F dX7_worth_43 0 rfl rfl ?_
          refine v_get (v := .ref (ad 1)) F inlX7 (ci := 7) rfl 0 (by decide) rfl wF_RX7_10 dX7_worth_44 0 rfl rfl ?_
          refine v_iload_n F dX7_worth_47 1 rfl rfl ?_
          refine v_iload_n F dX7_worth_48 3 rfl rfl ?_
          refine v_aload_n F dX7_worth_49 0 rfl rfl ?_
          refine v_get (v := .ref (ad 1)) F inlX7 (ci := 7) rfl 0 (by decide) rfl wF_RX7_10 dX7_worth_50 0 rfl rfl ?_
          refine v_cVIF F cs_RX7_141 dX7_worth_53 1 (ci := 1) rfl rfl (m_X1_moment lau G ad T n mo ver (S, h) u6 Tr Rg Tx Rd ) (by decide) rfl rfl (Nat.le_of_ble_eq_true rfl) ⟨Nat.zero_le _, Nat.zero_le _⟩ (fun r9 u10 w11 => ?_)
          subst w11
          refine v_cVIF F cs_RX7_196 dX7_worth_56 1 (ci := 1) rfl rfl (m_X1_lowestBut lau G ad T n mo ver (S, h) u6 Tr Rg Tx Rd (nI li) x mo (by omega)) (by decide) rfl rfl (Nat.le_of_ble_eq_true rfl) ⟨Nat.zero_le _, Nat.zero_le _⟩ (fun r12 u13 w14 => ?_)
          subst w14
          rcases hg : lb T x mo (nI li) n with _ | g
          · refine v_topi (-1) rfl ?_
            refine v_istore (lv' := [(4, .int (-1)), (3, .int (nI x)), (2, .int k), (0, .ref (ad 0)), (1, .int (nI li))]) F dX7_worth_59 (by decide) rfl ?_
            refine v_iload F dX7_worth_61 rfl ?_
            refine v_iconst (v := (-1)) F dX7_worth_63 (by decide) ?_
            refine v_icmp_ne F 69 dX7_worth_64 (by decide) (fun h => absurd h (by decide)) (fun _ => ?_)
            refine v_iconst (v := (-1)) F dX7_worth_67 (by decide) ?_
            exact v_iret F hr hlk hQ dX7_worth_68 ((u6, Tr, Rg)) rfl (by refine ⟨?_, h8, hC, hR⟩; exact woV_1 (by omega) hs hpl hg)
          · have hgl := lb_lt _ _ _ _ _ _ hg
            refine v_topi (nI g) rfl ?_
            refine v_istore (lv' := [(4, .int (nI g)), (3, .int (nI x)), (2, .int k), (0, .ref (ad 0)), (1, .int (nI li))]) F dX7_worth_59 (by decide) rfl ?_
            refine v_iload F dX7_worth_61 rfl ?_
            refine v_iconst (v := (-1)) F dX7_worth_63 (by decide) ?_
            refine v_icmp_ne F 69 dX7_worth_64 (by decide) (fun c15 => ?_) (fun c15 => ?_)
            · refine v_iload_n F dX7_worth_69 2 rfl rfl ?_
              refine v_aload_n F dX7_worth_70 0 rfl rfl ?_
              refine v_get (v := .ref (ad 1)) F inlX7 (ci := 7) rfl 0 (by decide) rfl wF_RX7_10 dX7_worth_71 0 rfl rfl ?_
              refine v_iload F dX7_worth_74 rfl ?_
              refine v_iload_n F dX7_worth_76 3 rfl rfl ?_
              refine v_cVIF F cs_RX7_120 dX7_worth_77 1 (ci := 1) rfl rfl (m_X1_valueAt lau G ad T n mo ver (S, h) u6 Tr Rg Tx Rd g x (by omega) (by omega)) (by decide) rfl rfl (Nat.le_of_ble_eq_true rfl) ⟨Nat.zero_le _, Nat.zero_le _⟩ (fun r16 u17 w18 => ?_)
              subst w18
              refine v_aload_n F dX7_worth_80 0 rfl rfl ?_
              refine v_get (v := .ref (ad 1)) F inlX7 (ci := 7) rfl 0 (by decide) rfl wF_RX7_10 dX7_worth_81 0 rfl rfl ?_
              refine v_iload_n F dX7_worth_84 1 rfl rfl ?_
              refine v_iload_n F dX7_worth_85 3 rfl rfl ?_
              refine v_cVIF F cs_RX7_120 dX7_worth_86 1 (ci := 1) rfl rfl (m_X1_valueAt lau G ad T n mo ver (S, h) u6 Tr Rg Tx Rd li x (by omega) (by omega)) (by decide) rfl rfl (Nat.le_of_ble_eq_true rfl) ⟨Nat.zero_le _, Nat.zero_le _⟩ (fun r19 u20 w21 => ?_)
              subst w21
              refine v_isub F dX7_worth_89 ?_
              refine v_iadd F dX7_worth_90 ?_
              refine v_istore_n (lv' := [(2, .int (k + ((pVal T g x) - (pVal T li x)))), (4, .int (nI g)), (3, .int (nI x)), (0, .ref (ad 0)), (1, .int (nI li))]) F dX7_worth_91 2 rfl (by decide) rfl ?_
              refine v_iinc (lv' := [(3, .int (nI (x + 1))), (2, .int (k + ((pVal T g x) - (pVal T li x)))), (4, .int (nI g)), (0, .ref (ad 0)), (1, .int (nI li))]) F (nI (x + 1)) dX7_worth_92 rfl (nI_add x 1) (by decide) rfl ?_
              refine v_goto F 25 dX7_worth_95 (by decide) ?_
              refine v_st (w' := wC ad G (T, n, mo, ver) (S, h) u6 Tr Rg Tx Rd) (pc' := 25) (st' := []) rfl rfl rfl [0, 1, 3, 4] (lv' := [(3, .int (nI (x + 1))), (2, .int (k + ((pVal T g x) - (pVal T li x)))), (0, .ref (ad 0)), (1, .int (nI li))]) rfl ?_
              exact ih25 (x + 1) u6 (k + ((pVal T g x) - (pVal T li x))) (by omega) (by omega) (h8) (by first | exact wo_a hs hpl | exact wo_b hs hpl hg)
            · exact absurd c15 (nI_ne1 (by omega))
  refine v_st (w' := wC ad G (T, n, mo, ver) (S, h) P Tr Rg Tx Rd) (pc' := 25) (st' := []) rfl rfl rfl [0, 1, 2, 3] (lv' := [(3, .int (nI 0)), (2, .int (nI 0)), (0, .ref (ad 0)), (1, .int (nI li))]) rfl ?_
  exact L25 _ 0 P (nI 0) (Nat.lt_succ_self _) (by omega) (hP) (rfl)
