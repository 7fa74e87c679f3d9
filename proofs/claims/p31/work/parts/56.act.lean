/-! the law: what is done of the array -/
theorem cs_RL_75 : CSS RL 75 yL_cell cL_cell 2 (some .int) 2 := ⟨wC_yL_cell, wM_RL_75, wSt_yL_cell, wI_RL, by decide +kernel, by decide⟩
theorem cs_RL_79 : CSS RL 79 yL_low cL_low 2 (some .int) 2 := ⟨wC_yL_low, wM_RL_79, wSt_yL_low, wI_RL, by decide +kernel, by decide⟩
theorem cs_RL_84 : CSV RL 84 RX7 yX7_span cX7_span 4 (some .int) 3 := ⟨wC_yX7_span, wM_RL_84, wIm_yX7_span, wSe_yX7_span, wI_RX7, by decide +kernel, by decide⟩
theorem cs_RL_87 : CSV RL 87 RX7 yX7_live cX7_live 4 (some .int) 3 := ⟨wC_yX7_live, wM_RL_87, wIm_yX7_live, wSe_yX7_live, wI_RX7, by decide +kernel, by decide⟩
theorem cs_RL_95 : CSV RL 95 RX7 yX7_go cX7_go 3 (some .int) 1 := ⟨wC_yX7_go, wM_RL_95, wIm_yX7_go, wSe_yX7_go, wI_RX7, by decide +kernel, by decide⟩
theorem cs_RL_98 : CSV RL 98 RX7 yX7_remove cX7_remove 2 (some .int) 1 := ⟨wC_yX7_remove, wM_RL_98, wIm_yX7_remove, wSe_yX7_remove, wI_RX7, by decide +kernel, by decide⟩
theorem cs_RL_104 : CSV RL 104 RX7 yX7_prune cX7_prune 3 (some .int) 0 := ⟨wC_yX7_prune, wM_RL_104, wIm_yX7_prune, wSe_yX7_prune, wI_RX7, by decide +kernel, by decide⟩
set_option maxHeartbeats 4000000 in
set_option maxRecDepth 100000 in
theorem z_L_act (lau : Launch) (G : GT) (ad : Nat → Nat) (T : Nat → Int32) (n mo ver : Nat) (S : Nat → Int32) (h : Nat) (P : PT) (Tr : TT) (Rg : RT) (co : Nat → Int32) (len : Nat) (Rd : DT) {sb L : Nat} {xs : Nat → Int32} (k : Nat) (hk : k + 3 < 2147483648) (hL : L < 2147483648) (K : Nat) (I : LIV K T n mo ver S h P Tr Rg co len Rd) (hK : K < 512) (hst : lau.stackTraces = false) : HZ lau G 20 yL_act cL_act 7 (some .int) [.ref (ad 0), .ref sb, .int (nI k)] (wC ad G (T, n, mo, ver) (S, h) P Tr Rg (co, len) Rd) (fun u : AU => wC ad G u.1 u.2.1 u.2.2.1 u.2.2.2.1 u.2.2.2.2 (co, len) Rd) (fun r u => ACP K h co len Rd r u) 1 6 sb L xs := by
  have hn := I.1
  have hmo := I.2.1
  have hT := I.2.2.1
  have hh := I.2.2.2.1
  refine hz_of (by decide +kernel) (Nat.le_of_ble_eq_true rfl) ?_
  intro p e s m args below meth c A Q F hr hlk hQ hSF hSH hNC hX hbl hbA
  refine v_st (w' := wC ad G (T, n, mo, ver) (S, h) P Tr Rg (co, len) Rd) (pc' := 0) (st' := []) rfl rfl rfl [0, 1, 2] (lv' := [(0, .ref (ad 0)), (1, .ref sb), (2, .int (nI k))]) rfl ?_
  refine v_aload_n F dL_act_0 0 rfl rfl ?_
  refine v_iconst (v := nI 1) F dL_act_1 (by decide) ?_
  refine v_cVIF F cs_RL_15 dL_act_2 0 (ci := 7) rfl rfl (m_X7_count lau G ad T n mo ver S h P Tr Rg (co, len) Rd 1 (by omega) (by omega) hT I.2.2.2.2.2.2.2.1.1 I.2.2.2.2.2.2.2.1.2.1 I.2.2.2.2.2.2.2.1.2.2) (by decide) rfl rfl (Nat.le_of_ble_eq_true rfl) ⟨by show 0 ≤ 1; omega, by show 0 ≤ 6; omega⟩ (fun r1 u2 w3 => ?_)
  have h4 := w3.2
  refine v_topi ((cntV T n mo h 1)) w3.1 ?_
  refine v_topi (nI n) (rfl) ?_
  refine v_istore_n (lv' := [(3, .int (nI n)), (0, .ref (ad 0)), (1, .ref sb), (2, .int (nI k))]) F dL_act_5 3 rfl (by decide) rfl ?_
  refine v_iload_n F dL_act_6 3 rfl rfl ?_
  refine v_if_ne F 14 dL_act_7 (by decide) (fun hn0 => ?_) (fun hn0 => ?_)
  · replace hn0 := nEn (a := n) (b := 0) (by omega) (by decide) hn0
    refine v_aload_n F dL_act_14 1 rfl rfl ?_
    refine v_iload_n F dL_act_15 2 rfl rfl ?_
    refine v_iconst (v := nI 1) F dL_act_16 (by decide) ?_
    refine v_iadd F dL_act_17 ?_
    refine v_topi (nI (k + 1)) (nI_add k 1) ?_
    refine v_cZ F hSF hSH hNC hX hbl hbA cs_RL_75 dL_act_18 [] [0, 1, 2, 3, 4, 5, 6, 7, 8, 9, 10, 11, 12, 13, 14, 15, 16, 17] (wc := []) (wr := wC ad G (T, n, mo, ver) (S, h) u2.1 u2.2.1 u2.2.2 (co, len) Rd) rfl rfl rfl rfl rfl (by decide) (z_L_cell lau G (k + 1) (by omega) (by omega)) (by decide) rfl rfl (Nat.le_of_ble_eq_true rfl) ⟨by show 0 + 0 ≤ 1; omega, by show 0 + 0 ≤ 6; omega⟩ (fun r5 u6 w7 => ?_)
    refine v_w (w' := wC ad G (T, n, mo, ver) (S, h) u2.1 u2.2.1 u2.2.2 (co, len) Rd) rfl ?_
    refine v_iload_n F dL_act_21 3 rfl rfl ?_
    refine v_cSIE F cs_RL_79 dL_act_22 (m_L_low lau G r5 n (by omega) (by omega)) (by decide) rfl rfl (Nat.le_of_ble_eq_true rfl) ⟨by show 0 ≤ 1; omega, by show 0 ≤ 6; omega⟩ (fun r8 u9 w10 => ?_)
    obtain ⟨j11, hj12, ej13⟩ := w10
    refine v_topi (nI j11) ej13 ?_
    refine v_istore (lv' := [(4, .int (nI j11)), (3, .int (nI n)), (0, .ref (ad 0)), (1, .ref sb), (2, .int (nI k))]) F dL_act_25 (by decide) rfl ?_
    refine v_aload_n F dL_act_27 1 rfl rfl ?_
    refine v_iload_n F dL_act_28 2 rfl rfl ?_
    refine v_iconst (v := nI 2) F dL_act_29 (by decide) ?_
    refine v_iadd F dL_act_30 ?_
    refine v_topi (nI (k + 2)) (nI_add k 2) ?_
    refine v_cZ F hSF hSH hNC hX hbl hbA cs_RL_75 dL_act_31 [] [0, 1, 2, 3, 4, 5, 6, 7, 8, 9, 10, 11, 12, 13, 14, 15, 16, 17] (wc := []) (wr := wC ad G (T, n, mo, ver) (S, h) u2.1 u2.2.1 u2.2.2 (co, len) Rd) rfl rfl rfl rfl rfl (by decide) (z_L_cell lau G (k + 2) (by omega) (by omega)) (by decide) rfl rfl (Nat.le_of_ble_eq_true rfl) ⟨by show 0 + 0 ≤ 1; omega, by show 0 + 0 ≤ 6; omega⟩ (fun r14 u15 w16 => ?_)
    refine v_w (w' := wC ad G (T, n, mo, ver) (S, h) u2.1 u2.2.1 u2.2.2 (co, len) Rd) rfl ?_
    refine v_bipush (v := nI 64) F dL_act_34 (by decide) ?_
    refine v_cSIE F cs_RL_79 dL_act_36 (m_L_low lau G r14 64 (by omega) (by omega)) (by decide) rfl rfl (Nat.le_of_ble_eq_true rfl) ⟨by show 0 ≤ 1; omega, by show 0 ≤ 6; omega⟩ (fun r17 u18 w19 => ?_)
    obtain ⟨j20, hj21, ej22⟩ := w19
    refine v_topi (nI j20) ej22 ?_
    refine v_istore (lv' := [(5, .int (nI j20)), (4, .int (nI j11)), (3, .int (nI n)), (0, .ref (ad 0)), (1, .ref sb), (2, .int (nI k))]) F dL_act_39 (by decide) rfl ?_
    refine v_aload_n F dL_act_41 1 rfl rfl ?_
    refine v_iload_n F dL_act_42 2 rfl rfl ?_
    refine v_iconst (v := nI 3) F dL_act_43 (by decide) ?_
    refine v_iadd F dL_act_44 ?_
    refine v_topi (nI (k + 3)) (nI_add k 3) ?_
    refine v_cZ F hSF hSH hNC hX hbl hbA cs_RL_75 dL_act_45 [] [0, 1, 2, 3, 4, 5, 6, 7, 8, 9, 10, 11, 12, 13, 14, 15, 16, 17] (wc := []) (wr := wC ad G (T, n, mo, ver) (S, h) u2.1 u2.2.1 u2.2.2 (co, len) Rd) rfl rfl rfl rfl rfl (by decide) (z_L_cell lau G (k + 3) (by omega) (by omega)) (by decide) rfl rfl (Nat.le_of_ble_eq_true rfl) ⟨by show 0 + 0 ≤ 1; omega, by show 0 + 0 ≤ 6; omega⟩ (fun r23 u24 w25 => ?_)
    refine v_w (w' := wC ad G (T, n, mo, ver) (S, h) u2.1 u2.2.1 u2.2.2 (co, len) Rd) rfl ?_
    refine v_bipush (v := nI 41) F dL_act_48 (by decide) ?_
    refine v_cSIE F cs_RL_79 dL_act_50 (m_L_low lau G r23 41 (by omega) (by omega)) (by decide) rfl rfl (Nat.le_of_ble_eq_true rfl) ⟨by show 0 ≤ 1; omega, by show 0 ≤ 6; omega⟩ (fun r26 u27 w28 => ?_)
    obtain ⟨j29, hj30, ej31⟩ := w28
    refine v_topi (nI j29) ej31 ?_
    refine v_bipush (v := nI 20) F dL_act_53 (by decide) ?_
    refine v_isub F dL_act_55 ?_
    refine v_istore (lv' := [(6, .int (nI j29 - nI 20)), (5, .int (nI j20)), (4, .int (nI j11)), (3, .int (nI n)), (0, .ref (ad 0)), (1, .ref sb), (2, .int (nI k))]) F dL_act_56 (by decide) rfl ?_
    refine v_iload_n F dL_act_58 3 rfl rfl ?_
    refine v_if_ne F 66 dL_act_59 (by decide) (fun c32 => ?_) (fun c32 => ?_)
    · replace c32 := nEn (a := n) (b := 0) (by omega) (by decide) c32
      refine v_aload_n F dL_act_66 1 rfl rfl ?_
      refine v_iload_n F dL_act_67 2 rfl rfl ?_
      refine v_cZ F hSF hSH hNC hX hbl hbA cs_RL_75 dL_act_68 [] [0, 1, 2, 3, 4, 5, 6, 7, 8, 9, 10, 11, 12, 13, 14, 15, 16, 17] (wc := []) (wr := wC ad G (T, n, mo, ver) (S, h) u2.1 u2.2.1 u2.2.2 (co, len) Rd) rfl rfl rfl rfl rfl (by decide) (z_L_cell lau G k (by omega) (by omega)) (by decide) rfl rfl (Nat.le_of_ble_eq_true rfl) ⟨by show 0 + 0 ≤ 1; omega, by show 0 + 0 ≤ 6; omega⟩ (fun r33 u34 w35 => ?_)
      refine v_w (w' := wC ad G (T, n, mo, ver) (S, h) u2.1 u2.2.1 u2.2.2 (co, len) Rd) rfl ?_
      refine v_bipush (v := nI 11) F dL_act_71 (by decide) ?_
      refine v_cSIE F cs_RL_79 dL_act_73 (m_L_low lau G r33 11 (by omega) (by omega)) (by decide) rfl rfl (Nat.le_of_ble_eq_true rfl) ⟨by show 0 ≤ 1; omega, by show 0 ≤ 6; omega⟩ (fun r36 u37 w38 => ?_)
      obtain ⟨j39, hj40, ej41⟩ := w38
      refine v_topi (nI j39) ej41 ?_
      rcases (show j39 = 0 ∨ j39 = 1 ∨ j39 = 2 ∨ j39 = 3 ∨ j39 = 4 ∨ j39 = 5 ∨ j39 = 6 ∨ j39 = 7 ∨ j39 = 8 ∨ j39 = 9 ∨ j39 = 10 by omega) with rfl | rfl | rfl | rfl | rfl | rfl | rfl | rfl | rfl | rfl | rfl
      · refine v_tableIn F 132 dL_act_76 (by decide) (by decide) rfl (by decide) ?_
        refine v_iload_n F dL_act_132 3 rfl rfl ?_
        refine v_bipush (v := nI 6) F dL_act_133 (by decide) ?_
        refine v_icmp_ge F 164 dL_act_135 (by decide) (fun c42 => ?_) (fun c42 => ?_)
        · replace c42 := nG (a := n) (b := 6) (by omega) (by decide) c42
          refine v_bipush (v := (-3)) F dL_act_164 (by decide) ?_
          refine v_widen (k' := 1) (n' := 6) (by omega) (by omega) ?_
          exact v_iret F hr hlk hQ dL_act_166 (((T, n, mo, ver), (S, h), u2.1, u2.2.1, u2.2.2)) rfl (by first | exact acp_of hpo | exact acp_same (I.obs ⟨h4.1, h4.2.1, h4.2.2⟩) hK)
        · replace c42 := nGn (a := n) (b := 6) (by omega) (by decide) c42
          refine v_aload_n F dL_act_138 0 rfl rfl ?_
          refine v_iload F dL_act_139 rfl ?_
          refine v_aload_n F dL_act_141 1 rfl rfl ?_
          refine v_iload_n F dL_act_142 2 rfl rfl ?_
          refine v_iconst (v := nI 1) F dL_act_143 (by decide) ?_
          refine v_iadd F dL_act_144 ?_
          refine v_topi (nI (k + 1)) (nI_add k 1) ?_
          refine v_cZ F hSF hSH hNC hX hbl hbA cs_RL_75 dL_act_145 [] [0, 1, 2, 3, 4, 5, 6, 7, 8, 9, 10, 11, 12, 13, 14, 15, 16, 17] (wc := []) (wr := wC ad G (T, n, mo, ver) (S, h) u2.1 u2.2.1 u2.2.2 (co, len) Rd) rfl rfl rfl rfl rfl (by decide) (z_L_cell lau G (k + 1) (by omega) (by omega)) (by decide) rfl rfl (Nat.le_of_ble_eq_true rfl) ⟨by show 0 + 0 ≤ 1; omega, by show 0 + 0 ≤ 6; omega⟩ (fun r43 u44 w45 => ?_)
          refine v_w (w' := wC ad G (T, n, mo, ver) (S, h) u2.1 u2.2.1 u2.2.2 (co, len) Rd) rfl ?_
          refine v_sipush (v := nI 600) F dL_act_148 (by decide) ?_
          refine v_cSIE F cs_RL_79 dL_act_151 (m_L_low lau G r43 600 (by omega) (by omega)) (by decide) rfl rfl (Nat.le_of_ble_eq_true rfl) ⟨by show 0 ≤ 1; omega, by show 0 ≤ 6; omega⟩ (fun r46 u47 w48 => ?_)
          obtain ⟨j49, hj50, ej51⟩ := w48
          refine v_topi (nI j49) ej51 ?_
          refine v_sipush (v := nI 300) F dL_act_154 (by decide) ?_
          refine v_isub F dL_act_157 ?_
          refine v_cH F hSF hSH hNC ch_add dL_act_158 [0, 1, 2, 3, 4, 5, 6, 7, 8, 9, 10, 11, 12, 13, 14, 15, 16, 17] [] (wc := wC ad G (T, n, mo, ver) (S, h) u2.1 u2.2.1 u2.2.2 (co, len) Rd) (wr := []) rfl rfl rfl rfl rfl (by decide) (h_add lau G ad T n mo ver S h u2.1 u2.2.1 u2.2.2 co len Rd (nI j29 - nI 20) (nI j49 - nI 300) (slB_41 (by omega)) (ofB_600 (by omega)) K (I.obs ⟨h4.1, h4.2.1, h4.2.2⟩) hK hst) (by decide) rfl rfl (Nat.le_of_ble_eq_true rfl) ⟨by show 0 + 1 ≤ 1; omega, by show 0 + 6 ≤ 6; omega⟩ (fun r52 u53 w54 => ?_)
          refine v_w (w' := wC ad G u53.1 u53.2 u2.1 u2.2.1 u2.2.2 (co, len) Rd) rfl ?_
          have hpo := w54
          refine v_goto F 166 dL_act_161 (by decide) ?_
          refine v_widen (k' := 1) (n' := 6) (by omega) (by omega) ?_
          exact v_iret F hr hlk hQ dL_act_166 ((u53.1, u53.2, u2.1, u2.2.1, u2.2.2)) rfl (by first | exact acp_of hpo | exact acp_same (I.obs ⟨h4.1, h4.2.1, h4.2.2⟩) hK)
      · refine v_tableIn F 132 dL_act_76 (by decide) (by decide) rfl (by decide) ?_
        refine v_iload_n F dL_act_132 3 rfl rfl ?_
        refine v_bipush (v := nI 6) F dL_act_133 (by decide) ?_
        refine v_icmp_ge F 164 dL_act_135 (by decide) (fun c55 => ?_) (fun c55 => ?_)
        · replace c55 := nG (a := n) (b := 6) (by omega) (by decide) c55
          refine v_bipush (v := (-3)) F dL_act_164 (by decide) ?_
          refine v_widen (k' := 1) (n' := 6) (by omega) (by omega) ?_
          exact v_iret F hr hlk hQ dL_act_166 (((T, n, mo, ver), (S, h), u2.1, u2.2.1, u2.2.2)) rfl (by first | exact acp_of hpo | exact acp_same (I.obs ⟨h4.1, h4.2.1, h4.2.2⟩) hK)
        · replace c55 := nGn (a := n) (b := 6) (by omega) (by decide) c55
          refine v_aload_n F dL_act_138 0 rfl rfl ?_
          refine v_iload F dL_act_139 rfl ?_
          refine v_aload_n F dL_act_141 1 rfl rfl ?_
          refine v_iload_n F dL_act_142 2 rfl rfl ?_
          refine v_iconst (v := nI 1) F dL_act_143 (by decide) ?_
          refine v_iadd F dL_act_144 ?_
          refine v_topi (nI (k + 1)) (nI_add k 1) ?_
          refine v_cZ F hSF hSH hNC hX hbl hbA cs_RL_75 dL_act_145 [] [0, 1, 2, 3, 4, 5, 6, 7, 8, 9, 10, 11, 12, 13, 14, 15, 16, 17] (wc := []) (wr := wC ad G (T, n, mo, ver) (S, h) u2.1 u2.2.1 u2.2.2 (co, len) Rd) rfl rfl rfl rfl rfl (by decide) (z_L_cell lau G (k + 1) (by omega) (by omega)) (by decide) rfl rfl (Nat.le_of_ble_eq_true rfl) ⟨by show 0 + 0 ≤ 1; omega, by show 0 + 0 ≤ 6; omega⟩ (fun r56 u57 w58 => ?_)
          refine v_w (w' := wC ad G (T, n, mo, ver) (S, h) u2.1 u2.2.1 u2.2.2 (co, len) Rd) rfl ?_
          refine v_sipush (v := nI 600) F dL_act_148 (by decide) ?_
          refine v_cSIE F cs_RL_79 dL_act_151 (m_L_low lau G r56 600 (by omega) (by omega)) (by decide) rfl rfl (Nat.le_of_ble_eq_true rfl) ⟨by show 0 ≤ 1; omega, by show 0 ≤ 6; omega⟩ (fun r59 u60 w61 => ?_)
          obtain ⟨j62, hj63, ej64⟩ := w61
          refine v_topi (nI j62) ej64 ?_
          refine v_sipush (v := nI 300) F dL_act_154 (by decide) ?_
          refine v_isub F dL_act_157 ?_
          refine v_cH F hSF hSH hNC ch_add dL_act_158 [0, 1, 2, 3, 4, 5, 6, 7, 8, 9, 10, 11, 12, 13, 14, 15, 16, 17] [] (wc := wC ad G (T, n, mo, ver) (S, h) u2.1 u2.2.1 u2.2.2 (co, len) Rd) (wr := []) rfl rfl rfl rfl rfl (by decide) (h_add lau G ad T n mo ver S h u2.1 u2.2.1 u2.2.2 co len Rd (nI j29 - nI 20) (nI j62 - nI 300) (slB_41 (by omega)) (ofB_600 (by omega)) K (I.obs ⟨h4.1, h4.2.1, h4.2.2⟩) hK hst) (by decide) rfl rfl (Nat.le_of_ble_eq_true rfl) ⟨by show 0 + 1 ≤ 1; omega, by show 0 + 6 ≤ 6; omega⟩ (fun r65 u66 w67 => ?_)
          refine v_w (w' := wC ad G u66.1 u66.2 u2.1 u2.2.1 u2.2.2 (co, len) Rd) rfl ?_
          have hpo := w67
          refine v_goto F 166 dL_act_161 (by decide) ?_
          refine v_widen (k' := 1) (n' := 6) (by omega) (by omega) ?_
          exact v_iret F hr hlk hQ dL_act_166 ((u66.1, u66.2, u2.1, u2.2.1, u2.2.2)) rfl (by first | exact acp_of hpo | exact acp_same (I.obs ⟨h4.1, h4.2.1, h4.2.2⟩) hK)
      · refine v_tableIn F 132 dL_act_76 (by decide) (by decide) rfl (by decide) ?_
        refine v_iload_n F dL_act_132 3 rfl rfl ?_
        refine v_bipush (v := nI 6) F dL_act_133 (by decide) ?_
        refine v_icmp_ge F 164 dL_act_135 (by decide) (fun c68 => ?_) (fun c68 => ?_)
        · replace c68 := nG (a := n) (b := 6) (by omega) (by decide) c68
          refine v_bipush (v := (-3)) F dL_act_164 (by decide) ?_
          refine v_widen (k' := 1) (n' := 6) (by omega) (by omega) ?_
          exact v_iret F hr hlk hQ dL_act_166 (((T, n, mo, ver), (S, h), u2.1, u2.2.1, u2.2.2)) rfl (by first | exact acp_of hpo | exact acp_same (I.obs ⟨h4.1, h4.2.1, h4.2.2⟩) hK)
        · replace c68 := nGn (a := n) (b := 6) (by omega) (by decide) c68
          refine v_aload_n F dL_act_138 0 rfl rfl ?_
          refine v_iload F dL_act_139 rfl ?_
          refine v_aload_n F dL_act_141 1 rfl rfl ?_
          refine v_iload_n F dL_act_142 2 rfl rfl ?_
          refine v_iconst (v := nI 1) F dL_act_143 (by decide) ?_
          refine v_iadd F dL_act_144 ?_
          refine v_topi (nI (k + 1)) (nI_add k 1) ?_
          refine v_cZ F hSF hSH hNC hX hbl hbA cs_RL_75 dL_act_145 [] [0, 1, 2, 3, 4, 5, 6, 7, 8, 9, 10, 11, 12, 13, 14, 15, 16, 17] (wc := []) (wr := wC ad G (T, n, mo, ver) (S, h) u2.1 u2.2.1 u2.2.2 (co, len) Rd) rfl rfl rfl rfl rfl (by decide) (z_L_cell lau G (k + 1) (by omega) (by omega)) (by decide) rfl rfl (Nat.le_of_ble_eq_true rfl) ⟨by show 0 + 0 ≤ 1; omega, by show 0 + 0 ≤ 6; omega⟩ (fun r69 u70 w71 => ?_)
          refine v_w (w' := wC ad G (T, n, mo, ver) (S, h) u2.1 u2.2.1 u2.2.2 (co, len) Rd) rfl ?_
          refine v_sipush (v := nI 600) F dL_act_148 (by decide) ?_
          refine v_cSIE F cs_RL_79 dL_act_151 (m_L_low lau G r69 600 (by omega) (by omega)) (by decide) rfl rfl (Nat.le_of_ble_eq_true rfl) ⟨by show 0 ≤ 1; omega, by show 0 ≤ 6; omega⟩ (fun r72 u73 w74 => ?_)
          obtain ⟨j75, hj76, ej77⟩ := w74
          refine v_topi (nI j75) ej77 ?_
          refine v_sipush (v := nI 300) F dL_act_154 (by decide) ?_
          refine v_isub F dL_act_157 ?_
          refine v_cH F hSF hSH hNC ch_add dL_act_158 [0, 1, 2, 3, 4, 5, 6, 7, 8, 9, 10, 11, 12, 13, 14, 15, 16, 17] [] (wc := wC ad G (T, n, mo, ver) (S, h) u2.1 u2.2.1 u2.2.2 (co, len) Rd) (wr := []) rfl rfl rfl rfl rfl (by decide) (h_add lau G ad T n mo ver S h u2.1 u2.2.1 u2.2.2 co len Rd (nI j29 - nI 20) (nI j75 - nI 300) (slB_41 (by omega)) (ofB_600 (by omega)) K (I.obs ⟨h4.1, h4.2.1, h4.2.2⟩) hK hst) (by decide) rfl rfl (Nat.le_of_ble_eq_true rfl) ⟨by show 0 + 1 ≤ 1; omega, by show 0 + 6 ≤ 6; omega⟩ (fun r78 u79 w80 => ?_)
          refine v_w (w' := wC ad G u79.1 u79.2 u2.1 u2.2.1 u2.2.2 (co, len) Rd) rfl ?_
          have hpo := w80
          refine v_goto F 166 dL_act_161 (by decide) ?_
          refine v_widen (k' := 1) (n' := 6) (by omega) (by omega) ?_
          exact v_iret F hr hlk hQ dL_act_166 ((u79.1, u79.2, u2.1, u2.2.1, u2.2.2)) rfl (by first | exact acp_of hpo | exact acp_same (I.obs ⟨h4.1, h4.2.1, h4.2.2⟩) hK)
      · refine v_tableIn F 167 dL_act_76 (by decide) (by decide) rfl (by decide) ?_
        refine v_aload_n F dL_act_167 0 rfl rfl ?_
        refine v_iload F dL_act_168 rfl ?_
        refine v_iload F dL_act_170 rfl ?_
        refine v_iload F dL_act_172 rfl ?_
        refine v_aload_n F dL_act_174 1 rfl rfl ?_
        refine v_iload_n F dL_act_175 2 rfl rfl ?_
        refine v_iconst (v := nI 3) F dL_act_176 (by decide) ?_
        refine v_iadd F dL_act_177 ?_
        refine v_topi (nI (k + 3)) (nI_add k 3) ?_
        refine v_cZ F hSF hSH hNC hX hbl hbA cs_RL_75 dL_act_178 [] [0, 1, 2, 3, 4, 5, 6, 7, 8, 9, 10, 11, 12, 13, 14, 15, 16, 17] (wc := []) (wr := wC ad G (T, n, mo, ver) (S, h) u2.1 u2.2.1 u2.2.2 (co, len) Rd) rfl rfl rfl rfl rfl (by decide) (z_L_cell lau G (k + 3) (by omega) (by omega)) (by decide) rfl rfl (Nat.le_of_ble_eq_true rfl) ⟨by show 0 + 0 ≤ 1; omega, by show 0 + 0 ≤ 6; omega⟩ (fun r81 u82 w83 => ?_)
        refine v_w (w' := wC ad G (T, n, mo, ver) (S, h) u2.1 u2.2.1 u2.2.2 (co, len) Rd) rfl ?_
        refine v_bipush (v := nI 64) F dL_act_181 (by decide) ?_
        refine v_iload F dL_act_183 rfl ?_
        refine v_isub F dL_act_185 ?_
        refine v_topi (nI (64 - j20)) (pk_sub (by omega)) ?_
        refine v_cSIE F cs_RL_79 dL_act_186 (m_L_low lau G r81 (64 - j20) (by omega) (by omega)) (by decide) rfl rfl (Nat.le_of_ble_eq_true rfl) ⟨by show 0 ≤ 1; omega, by show 0 ≤ 6; omega⟩ (fun r84 u85 w86 => ?_)
        obtain ⟨j87, hj88, ej89⟩ := w86
        refine v_topi (nI j87) ej89 ?_
        refine v_iadd F dL_act_189 ?_
        refine v_topi (nI (j20 + j87)) (nI_add j20 j87) ?_
        refine v_cVX F hSF hSH cs_RL_84 dL_act_190 0 (ci := 7) rfl rfl [0, 1, 2, 3, 4, 5, 6, 7, 8, 9, 10, 11, 12, 13, 14, 15, 16, 17] [] (wc := wC ad G (T, n, mo, ver) (S, h) u2.1 u2.2.1 u2.2.2 (co, len) Rd) (wr := []) rfl rfl rfl rfl rfl (by decide) (x_X7_span lau G ad T n mo ver S h u2.1 u2.2.1 u2.2.2 (co, len) Rd (nI j11) (nI j20) (nI (j20 + j87)) (by omega) (by omega) hst) (by decide) rfl rfl (Nat.le_of_ble_eq_true rfl) ⟨by show 0 + 1 ≤ 1; omega, by show 0 + 6 ≤ 6; omega⟩ (fun E u91 w92 => by rcases w92 with ⟨q, -⟩ | ⟨q, -⟩ <;> (rw [xStr_ok hn (by omega) (by omega) (by omega) (by decide)] at q; cases q)) (fun r90 u91 w92 => ?_)
        refine v_w (w' := wC ad G (upd (upd T (((nI j11).toNatClampNeg * 6) + 2) (nI j20)) (((nI j11).toNatClampNeg * 6) + 3) (nI (j20 + j87)), n, mo, ver + 2) (pSave S h T n mo, pSaveH h) u2.1 u2.2.1 u2.2.2 (co, len) Rd) rfl ?_
        have hpo := w92
        refine v_widen (k' := 1) (n' := 6) (by omega) (by omega) ?_
        exact v_iret F hr hlk hQ dL_act_193 (((upd (upd T (((nI j11).toNatClampNeg * 6) + 2) (nI j20)) (((nI j11).toNatClampNeg * 6) + 3) (nI (j20 + j87)), n, mo, ver + 2), (pSave S h T n mo, pSaveH h), u2.1, u2.2.1, u2.2.2)) rfl (by exact acp_mk (lr_span (I.obs ⟨h4.1, h4.2.1, h4.2.2⟩) hK hpo.1) (by rw [hpo.2]; exact spn_ne hn hT (by omega)))
      · refine v_tableIn F 194 dL_act_76 (by decide) (by decide) rfl (by decide) ?_
        refine v_aload_n F dL_act_194 0 rfl rfl ?_
        refine v_iload F dL_act_195 rfl ?_
        refine v_iload F dL_act_197 rfl ?_
        refine v_iload F dL_act_199 rfl ?_
        refine v_aload_n F dL_act_201 1 rfl rfl ?_
        refine v_iload_n F dL_act_202 2 rfl rfl ?_
        refine v_iconst (v := nI 3) F dL_act_203 (by decide) ?_
        refine v_iadd F dL_act_204 ?_
        refine v_topi (nI (k + 3)) (nI_add k 3) ?_
        refine v_cZ F hSF hSH hNC hX hbl hbA cs_RL_75 dL_act_205 [] [0, 1, 2, 3, 4, 5, 6, 7, 8, 9, 10, 11, 12, 13, 14, 15, 16, 17] (wc := []) (wr := wC ad G (T, n, mo, ver) (S, h) u2.1 u2.2.1 u2.2.2 (co, len) Rd) rfl rfl rfl rfl rfl (by decide) (z_L_cell lau G (k + 3) (by omega) (by omega)) (by decide) rfl rfl (Nat.le_of_ble_eq_true rfl) ⟨by show 0 + 0 ≤ 1; omega, by show 0 + 0 ≤ 6; omega⟩ (fun r93 u94 w95 => ?_)
        refine v_w (w' := wC ad G (T, n, mo, ver) (S, h) u2.1 u2.2.1 u2.2.2 (co, len) Rd) rfl ?_
        refine v_bipush (v := nI 100) F dL_act_208 (by decide) ?_
        refine v_iload F dL_act_210 rfl ?_
        refine v_isub F dL_act_212 ?_
        refine v_topi (nI (100 - j20)) (pk_sub (by omega)) ?_
        refine v_cSIE F cs_RL_79 dL_act_213 (m_L_low lau G r93 (100 - j20) (by omega) (by omega)) (by decide) rfl rfl (Nat.le_of_ble_eq_true rfl) ⟨by show 0 ≤ 1; omega, by show 0 ≤ 6; omega⟩ (fun r96 u97 w98 => ?_)
        obtain ⟨j99, hj100, ej101⟩ := w98
        refine v_topi (nI j99) ej101 ?_
        refine v_iadd F dL_act_216 ?_
        refine v_topi (nI (j20 + j99)) (nI_add j20 j99) ?_
        refine v_cVX F hSF hSH cs_RL_87 dL_act_217 0 (ci := 7) rfl rfl [0, 1, 2, 3, 4, 5, 6, 7, 8, 9, 10, 11, 12, 13, 14, 15, 16, 17] [] (wc := wC ad G (T, n, mo, ver) (S, h) u2.1 u2.2.1 u2.2.2 (co, len) Rd) (wr := []) rfl rfl rfl rfl rfl (by decide) (x_X7_live lau G ad T n mo ver S h u2.1 u2.2.1 u2.2.2 (co, len) Rd (nI j11) (nI j20) (nI (j20 + j99)) (by omega) (by omega) hst) (by decide) rfl rfl (Nat.le_of_ble_eq_true rfl) ⟨by show 0 + 1 ≤ 1; omega, by show 0 + 6 ≤ 6; omega⟩ (fun E u103 w104 => by rcases w104 with ⟨q, -⟩ | ⟨q, -⟩ <;> (rw [xStr_ok hn (by omega) (by omega) (by omega) (by decide)] at q; cases q)) (fun r102 u103 w104 => ?_)
        refine v_w (w' := wC ad G (upd (upd T (((nI j11).toNatClampNeg * 6) + 4) (nI j20)) (((nI j11).toNatClampNeg * 6) + 5) (nI (j20 + j99)), n, mo, ver + 2) (pSave S h T n mo, pSaveH h) u2.1 u2.2.1 u2.2.2 (co, len) Rd) rfl ?_
        have hpo := w104
        refine v_widen (k' := 1) (n' := 6) (by omega) (by omega) ?_
        exact v_iret F hr hlk hQ dL_act_220 (((upd (upd T (((nI j11).toNatClampNeg * 6) + 4) (nI j20)) (((nI j11).toNatClampNeg * 6) + 5) (nI (j20 + j99)), n, mo, ver + 2), (pSave S h T n mo, pSaveH h), u2.1, u2.2.1, u2.2.2)) rfl (by exact acp_mk (lr_live (I.obs ⟨h4.1, h4.2.1, h4.2.2⟩) hK hpo.1) (by rw [hpo.2]; exact liv_ne hn hT (by omega)))
      · refine v_tableIn F 221 dL_act_76 (by decide) (by decide) rfl (by decide) ?_
        refine v_aload_n F dL_act_221 0 rfl rfl ?_
        refine v_iload F dL_act_222 rfl ?_
        refine v_iload F dL_act_224 rfl ?_
        refine v_cH F hSF hSH hNC ch_lift dL_act_226 [0, 1, 2, 3, 4, 5, 6, 7, 8, 9, 10, 11, 12, 13, 14, 15, 16, 17] [] (wc := wC ad G (T, n, mo, ver) (S, h) u2.1 u2.2.1 u2.2.2 (co, len) Rd) (wr := []) rfl rfl rfl rfl rfl (by decide) (h_lift lau G ad T n mo ver S h u2.1 u2.2.1 u2.2.2 co len Rd j11 (nI j29 - nI 20) (by omega) (ofB_41 (by omega)) K (I.obs ⟨h4.1, h4.2.1, h4.2.2⟩) hK hst) (by decide) rfl rfl (Nat.le_of_ble_eq_true rfl) ⟨by show 0 + 1 ≤ 1; omega, by show 0 + 6 ≤ 6; omega⟩ (fun r105 u106 w107 => ?_)
        refine v_w (w' := wC ad G u106.1 u106.2 u2.1 u2.2.1 u2.2.2 (co, len) Rd) rfl ?_
        have hpo := w107
        refine v_widen (k' := 1) (n' := 6) (by omega) (by omega) ?_
        exact v_iret F hr hlk hQ dL_act_229 ((u106.1, u106.2, u2.1, u2.2.1, u2.2.2)) rfl (by exact acp_of hpo)
      · refine v_tableIn F 230 dL_act_76 (by decide) (by decide) rfl (by decide) ?_
        refine v_aload_n F dL_act_230 0 rfl rfl ?_
        refine v_iload F dL_act_231 rfl ?_
        refine v_iload F dL_act_233 rfl ?_
        refine v_iload F dL_act_235 rfl ?_
        refine v_cH F hSF hSH hNC ch_turn dL_act_237 [0, 1, 2, 3, 4, 5, 6, 7, 8, 9, 10, 11, 12, 13, 14, 15, 16, 17] [] (wc := wC ad G (T, n, mo, ver) (S, h) u2.1 u2.2.1 u2.2.2 (co, len) Rd) (wr := []) rfl rfl rfl rfl rfl (by decide) (h_turn lau G ad T n mo ver S h u2.1 u2.2.1 u2.2.2 co len Rd j11 j20 (nI j29 - nI 20) (by omega) (by omega) (slB_41 (by omega)) K (I.obs ⟨h4.1, h4.2.1, h4.2.2⟩) hK hst) (by decide) rfl rfl (Nat.le_of_ble_eq_true rfl) ⟨by show 0 + 1 ≤ 1; omega, by show 0 + 6 ≤ 6; omega⟩ (fun r108 u109 w110 => ?_)
        refine v_w (w' := wC ad G u109.1 u109.2 u2.1 u2.2.1 u2.2.2 (co, len) Rd) rfl ?_
        have hpo := w110
        refine v_widen (k' := 1) (n' := 6) (by omega) (by omega) ?_
        exact v_iret F hr hlk hQ dL_act_240 ((u109.1, u109.2, u2.1, u2.2.1, u2.2.2)) rfl (by exact acp_of hpo)
      · refine v_tableIn F 241 dL_act_76 (by decide) (by decide) rfl (by decide) ?_
        refine v_aload_n F dL_act_241 0 rfl rfl ?_
        refine v_iload F dL_act_242 rfl ?_
        refine v_aload_n F dL_act_244 1 rfl rfl ?_
        refine v_iload_n F dL_act_245 2 rfl rfl ?_
        refine v_iconst (v := nI 1) F dL_act_246 (by decide) ?_
        refine v_iadd F dL_act_247 ?_
        refine v_topi (nI (k + 1)) (nI_add k 1) ?_
        refine v_cZ F hSF hSH hNC hX hbl hbA cs_RL_75 dL_act_248 [] [0, 1, 2, 3, 4, 5, 6, 7, 8, 9, 10, 11, 12, 13, 14, 15, 16, 17] (wc := []) (wr := wC ad G (T, n, mo, ver) (S, h) u2.1 u2.2.1 u2.2.2 (co, len) Rd) rfl rfl rfl rfl rfl (by decide) (z_L_cell lau G (k + 1) (by omega) (by omega)) (by decide) rfl rfl (Nat.le_of_ble_eq_true rfl) ⟨by show 0 + 0 ≤ 1; omega, by show 0 + 0 ≤ 6; omega⟩ (fun r111 u112 w113 => ?_)
        refine v_w (w' := wC ad G (T, n, mo, ver) (S, h) u2.1 u2.2.1 u2.2.2 (co, len) Rd) rfl ?_
        refine v_bipush (v := nI 36) F dL_act_251 (by decide) ?_
        refine v_cSIE F cs_RL_79 dL_act_253 (m_L_low lau G r111 36 (by omega) (by omega)) (by decide) rfl rfl (Nat.le_of_ble_eq_true rfl) ⟨by show 0 ≤ 1; omega, by show 0 ≤ 6; omega⟩ (fun r114 u115 w116 => ?_)
        obtain ⟨j117, hj118, ej119⟩ := w116
        refine v_topi (nI j117) ej119 ?_
        refine v_iadd F dL_act_256 ?_
        refine v_topi (nI (j20 + j117)) (nI_add j20 j117) ?_
        refine v_cVX F hSF hSH cs_RL_95 dL_act_257 0 (ci := 7) rfl rfl [0, 1, 2, 3, 4, 5, 6, 7, 8, 9, 10, 11, 12, 13, 14, 15, 16, 17] [] (wc := wC ad G (T, n, mo, ver) (S, h) u2.1 u2.2.1 u2.2.2 (co, len) Rd) (wr := []) rfl rfl rfl rfl rfl (by decide) (x_X7_go lau G ad T n mo ver S h u2.1 u2.2.1 u2.2.2 (co, len) Rd (nI (j20 + j117)) (by omega) (by omega) hst) (by decide) rfl rfl (Nat.le_of_ble_eq_true rfl) ⟨by show 0 + 1 ≤ 1; omega, by show 0 + 6 ≤ 6; omega⟩ (fun E u121 w122 => by obtain ⟨q, -⟩ := w122; rw [xGo_ok (by omega)] at q; cases q) (fun r120 u121 w122 => ?_)
        refine v_w (w' := wC ad G (T, n, (nI (j20 + j117)).toNatClampNeg, ver + 1) (pSave S h T n mo, pSaveH h) u2.1 u2.2.1 u2.2.2 (co, len) Rd) rfl ?_
        have hpo := w122
        refine v_widen (k' := 1) (n' := 6) (by omega) (by omega) ?_
        exact v_iret F hr hlk hQ dL_act_260 (((T, n, (nI (j20 + j117)).toNatClampNeg, ver + 1), (pSave S h T n mo, pSaveH h), u2.1, u2.2.1, u2.2.2)) rfl (by exact acp_mk (lr_go (I.obs ⟨h4.1, h4.2.1, h4.2.2⟩) hK hpo.1) (by rw [hpo.2]; exact nI_ne3 (by omega)))
      · refine v_tableIn F 261 dL_act_76 (by decide) (by decide) rfl (by decide) ?_
        refine v_aload_n F dL_act_261 0 rfl rfl ?_
        refine v_iload F dL_act_262 rfl ?_
        refine v_cVX F hSF hSH cs_RL_98 dL_act_264 0 (ci := 7) rfl rfl [0, 1, 2, 3, 4, 5, 6, 7, 8, 9, 10, 11, 12, 13, 14, 15, 16, 17] [] (wc := wC ad G (T, n, mo, ver) (S, h) u2.1 u2.2.1 u2.2.2 (co, len) Rd) (wr := []) rfl rfl rfl rfl rfl (by decide) (x_X7_remove lau G ad T n mo ver S h u2.1 u2.2.1 u2.2.2 (co, len) Rd (nI j11) (by omega) (by omega) hst) (by decide) rfl rfl (Nat.le_of_ble_eq_true rfl) ⟨by show 0 + 1 ≤ 1; omega, by show 0 + 6 ≤ 6; omega⟩ (fun E u124 w125 => by obtain ⟨q, -⟩ := w125; rw [xRem_ok hn (by omega)] at q; cases q) (fun r123 u124 w125 => ?_)
        refine v_w (w' := wC ad G (pDrop T n (nI j11).toNatClampNeg, n - 1, mo, ver + 1) (pSave S h T n mo, pSaveH h) u2.1 u2.2.1 u2.2.2 (co, len) Rd) rfl ?_
        have hpo := w125
        refine v_widen (k' := 1) (n' := 6) (by omega) (by omega) ?_
        exact v_iret F hr hlk hQ dL_act_267 (((pDrop T n (nI j11).toNatClampNeg, n - 1, mo, ver + 1), (pSave S h T n mo, pSaveH h), u2.1, u2.2.1, u2.2.2)) rfl (by exact acp_mk (lr_remove (I.obs ⟨h4.1, h4.2.1, h4.2.2⟩) hK hpo.1) (by rw [hpo.2]; exact nI_ne3 (by omega)))
      · refine v_tableIn F 268 dL_act_76 (by decide) (by decide) rfl (by decide) ?_
        refine v_aload_n F dL_act_268 0 rfl rfl ?_
        refine v_cH F hSF hSH hNC ch_undo dL_act_269 [0, 1, 2, 3, 4, 5, 6, 7, 8, 9, 10, 11, 12, 13, 14, 15, 16, 17] [] (wc := wC ad G (T, n, mo, ver) (S, h) u2.1 u2.2.1 u2.2.2 (co, len) Rd) (wr := []) rfl rfl rfl rfl rfl (by decide) (h_undo lau G ad T n mo ver S h u2.1 u2.2.1 u2.2.2 co len Rd K (I.obs ⟨h4.1, h4.2.1, h4.2.2⟩) hK hst) (by decide) rfl rfl (Nat.le_of_ble_eq_true rfl) ⟨by show 0 + 1 ≤ 1; omega, by show 0 + 6 ≤ 6; omega⟩ (fun r126 u127 w128 => ?_)
        refine v_w (w' := wC ad G u127.1 u127.2 u2.1 u2.2.1 u2.2.2 (co, len) Rd) rfl ?_
        have hpo := w128
        refine v_widen (k' := 1) (n' := 6) (by omega) (by omega) ?_
        exact v_iret F hr hlk hQ dL_act_272 ((u127.1, u127.2, u2.1, u2.2.1, u2.2.2)) rfl (by exact acp_of hpo)
      · refine v_tableOut F 273 dL_act_76 (by decide) (by decide) ?_
        refine v_aload_n F dL_act_273 0 rfl rfl ?_
        refine v_bipush (v := nI 7) F dL_act_274 (by decide) ?_
        refine v_cVIF F cs_RL_15 dL_act_276 0 (ci := 7) rfl rfl (m_X7_count lau G ad T n mo ver S h u2.1 u2.2.1 u2.2.2 (co, len) Rd 7 (by omega) (by omega) hT h4.1 h4.2.1 h4.2.2) (by decide) rfl rfl (Nat.le_of_ble_eq_true rfl) ⟨by show 0 ≤ 1; omega, by show 0 ≤ 6; omega⟩ (fun r129 u130 w131 => ?_)
        have h132 := w131.2
        refine v_topi ((cntV T n mo h 7)) w131.1 ?_
        refine v_topi ((bcI (nvr T n n))) (rfl) ?_
        refine v_aload_n F dL_act_279 0 rfl rfl ?_
        refine v_cVIF F cs_RL_104 dL_act_280 0 (ci := 7) rfl rfl (m_X7_prune lau G ad T n mo ver S h u130.1 u130.2.1 u130.2.2 (co, len) Rd (by omega) (by omega) h132.2.2) (by decide) rfl rfl (Nat.le_of_ble_eq_true rfl) ⟨by show 0 ≤ 1; omega, by show 0 ≤ 6; omega⟩ (fun r133 u134 w135 => ?_)
        have hpo := w135
        refine v_isub F dL_act_283 ?_
        refine v_widen (k' := 1) (n' := 6) (by omega) (by omega) ?_
        exact v_iret F hr hlk hQ dL_act_284 ((((prS (nvr T n n) T n n).1, (prS (nvr T n n) T n n).2.1, mo, ver + (prS (nvr T n n) T n n).2.2), (pSave S h T n mo, pSaveH h), u130.1, u130.2.1, u134)) rfl (by exact acp_mk (lr_prune (I.obs ⟨h132.1, h132.2.1, h132.2.2⟩) hK hpo.2) (by rw [hpo.1]; exact self_ne))
    · replace c32 := nE (a := n) (b := 0) (by omega) (by decide) c32
      omega
  · replace hn0 := nE (a := n) (b := 0) (by omega) (by decide) hn0
    subst hn0
    refine v_iconst (v := nI 0) F dL_act_10 (by decide) ?_
    refine v_goto F 25 dL_act_11 (by decide) ?_
    refine v_istore (lv' := [(4, .int (nI 0)), (3, .int (nI 0)), (0, .ref (ad 0)), (1, .ref sb), (2, .int (nI k))]) F dL_act_25 (by decide) rfl ?_
    refine v_aload_n F dL_act_27 1 rfl rfl ?_
    refine v_iload_n F dL_act_28 2 rfl rfl ?_
    refine v_iconst (v := nI 2) F dL_act_29 (by decide) ?_
    refine v_iadd F dL_act_30 ?_
    refine v_topi (nI (k + 2)) (nI_add k 2) ?_
    refine v_cZ F hSF hSH hNC hX hbl hbA cs_RL_75 dL_act_31 [] [0, 1, 2, 3, 4, 5, 6, 7, 8, 9, 10, 11, 12, 13, 14, 15, 16, 17] (wc := []) (wr := wC ad G (T, 0, mo, ver) (S, h) u2.1 u2.2.1 u2.2.2 (co, len) Rd) rfl rfl rfl rfl rfl (by decide) (z_L_cell lau G (k + 2) (by omega) (by omega)) (by decide) rfl rfl (Nat.le_of_ble_eq_true rfl) ⟨by show 0 + 0 ≤ 1; omega, by show 0 + 0 ≤ 6; omega⟩ (fun r136 u137 w138 => ?_)
    refine v_w (w' := wC ad G (T, 0, mo, ver) (S, h) u2.1 u2.2.1 u2.2.2 (co, len) Rd) rfl ?_
    refine v_bipush (v := nI 64) F dL_act_34 (by decide) ?_
    refine v_cSIE F cs_RL_79 dL_act_36 (m_L_low lau G r136 64 (by omega) (by omega)) (by decide) rfl rfl (Nat.le_of_ble_eq_true rfl) ⟨by show 0 ≤ 1; omega, by show 0 ≤ 6; omega⟩ (fun r139 u140 w141 => ?_)
    obtain ⟨j142, hj143, ej144⟩ := w141
    refine v_topi (nI j142) ej144 ?_
    refine v_istore (lv' := [(5, .int (nI j142)), (4, .int (nI 0)), (3, .int (nI 0)), (0, .ref (ad 0)), (1, .ref sb), (2, .int (nI k))]) F dL_act_39 (by decide) rfl ?_
    refine v_aload_n F dL_act_41 1 rfl rfl ?_
    refine v_iload_n F dL_act_42 2 rfl rfl ?_
    refine v_iconst (v := nI 3) F dL_act_43 (by decide) ?_
    refine v_iadd F dL_act_44 ?_
    refine v_topi (nI (k + 3)) (nI_add k 3) ?_
    refine v_cZ F hSF hSH hNC hX hbl hbA cs_RL_75 dL_act_45 [] [0, 1, 2, 3, 4, 5, 6, 7, 8, 9, 10, 11, 12, 13, 14, 15, 16, 17] (wc := []) (wr := wC ad G (T, 0, mo, ver) (S, h) u2.1 u2.2.1 u2.2.2 (co, len) Rd) rfl rfl rfl rfl rfl (by decide) (z_L_cell lau G (k + 3) (by omega) (by omega)) (by decide) rfl rfl (Nat.le_of_ble_eq_true rfl) ⟨by show 0 + 0 ≤ 1; omega, by show 0 + 0 ≤ 6; omega⟩ (fun r145 u146 w147 => ?_)
    refine v_w (w' := wC ad G (T, 0, mo, ver) (S, h) u2.1 u2.2.1 u2.2.2 (co, len) Rd) rfl ?_
    refine v_bipush (v := nI 41) F dL_act_48 (by decide) ?_
    refine v_cSIE F cs_RL_79 dL_act_50 (m_L_low lau G r145 41 (by omega) (by omega)) (by decide) rfl rfl (Nat.le_of_ble_eq_true rfl) ⟨by show 0 ≤ 1; omega, by show 0 ≤ 6; omega⟩ (fun r148 u149 w150 => ?_)
    obtain ⟨j151, hj152, ej153⟩ := w150
    refine v_topi (nI j151) ej153 ?_
    refine v_bipush (v := nI 20) F dL_act_53 (by decide) ?_
    refine v_isub F dL_act_55 ?_
    refine v_istore (lv' := [(6, .int (nI j151 - nI 20)), (5, .int (nI j142)), (4, .int (nI 0)), (3, .int (nI 0)), (0, .ref (ad 0)), (1, .ref sb), (2, .int (nI k))]) F dL_act_56 (by decide) rfl ?_
    refine v_iload_n F dL_act_58 3 rfl rfl ?_
    refine v_if_ne F 66 dL_act_59 (by decide) (fun h => absurd h (by decide)) (fun _ => ?_)
    refine v_iconst (v := nI 0) F dL_act_62 (by decide) ?_
    refine v_goto F 76 dL_act_63 (by decide) ?_
    refine v_tableIn F 132 dL_act_76 (by decide) (by decide) rfl (by decide) ?_
    refine v_iload_n F dL_act_132 3 rfl rfl ?_
    refine v_bipush (v := nI 6) F dL_act_133 (by decide) ?_
    refine v_icmp_ge F 164 dL_act_135 (by decide) (fun h => absurd h (by decide)) (fun _ => ?_)
    refine v_aload_n F dL_act_138 0 rfl rfl ?_
    refine v_iload F dL_act_139 rfl ?_
    refine v_aload_n F dL_act_141 1 rfl rfl ?_
    refine v_iload_n F dL_act_142 2 rfl rfl ?_
    refine v_iconst (v := nI 1) F dL_act_143 (by decide) ?_
    refine v_iadd F dL_act_144 ?_
    refine v_topi (nI (k + 1)) (nI_add k 1) ?_
    refine v_cZ F hSF hSH hNC hX hbl hbA cs_RL_75 dL_act_145 [] [0, 1, 2, 3, 4, 5, 6, 7, 8, 9, 10, 11, 12, 13, 14, 15, 16, 17] (wc := []) (wr := wC ad G (T, 0, mo, ver) (S, h) u2.1 u2.2.1 u2.2.2 (co, len) Rd) rfl rfl rfl rfl rfl (by decide) (z_L_cell lau G (k + 1) (by omega) (by omega)) (by decide) rfl rfl (Nat.le_of_ble_eq_true rfl) ⟨by show 0 + 0 ≤ 1; omega, by show 0 + 0 ≤ 6; omega⟩ (fun r154 u155 w156 => ?_)
    refine v_w (w' := wC ad G (T, 0, mo, ver) (S, h) u2.1 u2.2.1 u2.2.2 (co, len) Rd) rfl ?_
    refine v_sipush (v := nI 600) F dL_act_148 (by decide) ?_
    refine v_cSIE F cs_RL_79 dL_act_151 (m_L_low lau G r154 600 (by omega) (by omega)) (by decide) rfl rfl (Nat.le_of_ble_eq_true rfl) ⟨by show 0 ≤ 1; omega, by show 0 ≤ 6; omega⟩ (fun r157 u158 w159 => ?_)
    obtain ⟨j160, hj161, ej162⟩ := w159
    refine v_topi (nI j160) ej162 ?_
    refine v_sipush (v := nI 300) F dL_act_154 (by decide) ?_
    refine v_isub F dL_act_157 ?_
    refine v_cH F hSF hSH hNC ch_add dL_act_158 [0, 1, 2, 3, 4, 5, 6, 7, 8, 9, 10, 11, 12, 13, 14, 15, 16, 17] [] (wc := wC ad G (T, 0, mo, ver) (S, h) u2.1 u2.2.1 u2.2.2 (co, len) Rd) (wr := []) rfl rfl rfl rfl rfl (by decide) (h_add lau G ad T 0 mo ver S h u2.1 u2.2.1 u2.2.2 co len Rd (nI j151 - nI 20) (nI j160 - nI 300) (slB_41 (by omega)) (ofB_600 (by omega)) K (I.obs ⟨h4.1, h4.2.1, h4.2.2⟩) hK hst) (by decide) rfl rfl (Nat.le_of_ble_eq_true rfl) ⟨by show 0 + 1 ≤ 1; omega, by show 0 + 6 ≤ 6; omega⟩ (fun r163 u164 w165 => ?_)
    refine v_w (w' := wC ad G u164.1 u164.2 u2.1 u2.2.1 u2.2.2 (co, len) Rd) rfl ?_
    have hpo := w165
    refine v_goto F 166 dL_act_161 (by decide) ?_
    refine v_widen (k' := 1) (n' := 6) (by omega) (by omega) ?_
    exact v_iret F hr hlk hQ dL_act_166 ((u164.1, u164.2, u2.1, u2.2.1, u2.2.2)) rfl (by first | exact acp_of hpo | exact acp_same (I.obs ⟨h4.1, h4.2.1, h4.2.2⟩) hK)
