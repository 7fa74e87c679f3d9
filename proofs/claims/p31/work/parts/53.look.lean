/-! the law: a line's value, whether it counts, the lowest line told by the lines -/
theorem cs_RL_9 : CSV RL 9 RX7 yX7_line cX7_line 3 (some .int) 2 := ⟨wC_yX7_line, wM_RL_9, wIm_yX7_line, wSe_yX7_line, wI_RX7, by decide +kernel, by decide⟩
set_option maxHeartbeats 4000000 in
set_option maxRecDepth 100000 in
theorem m_L_valueOf (lau : Launch) (G : GT) (ad : Nat → Nat) (T : Nat → Int32) (n mo ver : Nat) (S : Nat → Int32) (h : Nat) (P : PT) (Tr : TT) (Rg : RT) (Tx : XT) (Rd : DT) (li x : Nat) (hli : li < n) (hn : n ≤ 20) (hT : TOK T n) (hP : PCI T n mo ver P) (hC : TCI T n mo ver Tr) (hR : RCI T n ver Rg) : MI lau G 15 yL_valueOf cL_valueOf 3 (some .int) [.ref (ad 0), .int (nI li), .int (nI x)] (wC ad G (T, n, mo, ver) (S, h) P Tr Rg Tx Rd) (fun u : PT × TT × RT => wC ad G (T, n, mo, ver) (S, h) u.1 u.2.1 u.2.2 Tx Rd) (fun r u => r = pVal T li x ∧ PCI T n mo ver u.1 ∧ TCI T n mo ver u.2.1 ∧ RCI T n ver u.2.2) := by
  refine mi_of (by decide +kernel) (Nat.le_of_ble_eq_true rfl) ?_
  intro p e s m args below meth c A Q F hr hlk hQ
  refine v_st (w' := wC ad G (T, n, mo, ver) (S, h) P Tr Rg Tx Rd) (pc' := 0) (st' := []) rfl rfl rfl [0, 1, 2] (lv' := [(0, .ref (ad 0)), (1, .int (nI li)), (2, .int (nI x))]) rfl ?_
  refine v_aload_n F dL_valueOf_0 0 rfl rfl ?_
  refine v_iload_n F dL_valueOf_1 1 rfl rfl ?_
  refine v_iconst (v := nI 0) F dL_valueOf_2 (by decide) ?_
  refine v_cVIF F cs_RL_9 dL_valueOf_3 0 (ci := 7) rfl rfl (m_X7_line lau G ad T n mo ver S h P Tr Rg Tx Rd li 0 (by omega) (by omega) (by omega) hT hP hC hR) (by decide) rfl rfl (Nat.le_of_ble_eq_true rfl) ⟨Nat.zero_le _, Nat.zero_le _⟩ (fun r1 u2 w3 => ?_)
  have h4 := w3.2
  refine v_topi ((linV T n mo li 0)) w3.1 ?_
  refine v_topi ((T (li * 6 + 0))) (rfl) ?_
  refine v_iload_n F dL_valueOf_6 2 rfl rfl ?_
  refine v_imul F dL_valueOf_7 ?_
  refine v_aload_n F dL_valueOf_8 0 rfl rfl ?_
  refine v_iload_n F dL_valueOf_9 1 rfl rfl ?_
  refine v_iconst (v := nI 1) F dL_valueOf_10 (by decide) ?_
  refine v_cVIF F cs_RL_9 dL_valueOf_11 0 (ci := 7) rfl rfl (m_X7_line lau G ad T n mo ver S h u2.1 u2.2.1 u2.2.2 Tx Rd li 1 (by omega) (by omega) (by omega) hT h4.1 h4.2.1 h4.2.2) (by decide) rfl rfl (Nat.le_of_ble_eq_true rfl) ⟨Nat.zero_le _, Nat.zero_le _⟩ (fun r5 u6 w7 => ?_)
  have h8 := w7.2
  refine v_topi ((linV T n mo li 1)) w7.1 ?_
  refine v_topi ((T (li * 6 + 1))) (rfl) ?_
  refine v_iadd F dL_valueOf_14 ?_
  exact v_iret F hr hlk hQ dL_valueOf_15 ((u6.1, u6.2.1, u6.2.2)) rfl (by refine ⟨?_, h8.1, h8.2.1, h8.2.2⟩; rfl)
set_option maxHeartbeats 4000000 in
set_option maxRecDepth 100000 in
theorem m_L_counts (lau : Launch) (G : GT) (ad : Nat → Nat) (T : Nat → Int32) (n mo ver : Nat) (S : Nat → Int32) (h : Nat) (P : PT) (Tr : TT) (Rg : RT) (Tx : XT) (Rd : DT) (li x t : Nat) (hli : li < n) (hn : n ≤ 20) (hT : TOK T n) (hP : PCI T n mo ver P) (hC : TCI T n mo ver Tr) (hR : RCI T n ver Rg) : MI lau G 15 yL_counts cL_counts 4 (some .boolean) [.ref (ad 0), .int (nI li), .int (nI x), .int (nI t)] (wC ad G (T, n, mo, ver) (S, h) P Tr Rg Tx Rd) (fun u : PT × TT × RT => wC ad G (T, n, mo, ver) (S, h) u.1 u.2.1 u.2.2 Tx Rd) (fun r u => r = bI (cnt T li x t) ∧ PCI T n mo ver u.1 ∧ TCI T n mo ver u.2.1 ∧ RCI T n ver u.2.2) := by
  refine mi_of (by decide +kernel) (Nat.le_of_ble_eq_true rfl) ?_
  intro p e s m args below meth c A Q F hr hlk hQ
  refine v_st (w' := wC ad G (T, n, mo, ver) (S, h) P Tr Rg Tx Rd) (pc' := 0) (st' := []) rfl rfl rfl [0, 1, 2, 3] (lv' := [(0, .ref (ad 0)), (1, .int (nI li)), (2, .int (nI x)), (3, .int (nI t))]) rfl ?_
  refine v_iload_n F dL_counts_0 2 rfl rfl ?_
  refine v_aload_n F dL_counts_1 0 rfl rfl ?_
  refine v_iload_n F dL_counts_2 1 rfl rfl ?_
  refine v_iconst (v := nI 2) F dL_counts_3 (by decide) ?_
  refine v_cVIF F cs_RL_9 dL_counts_4 0 (ci := 7) rfl rfl (m_X7_line lau G ad T n mo ver S h P Tr Rg Tx Rd li 2 (by omega) (by omega) (by omega) hT hP hC hR) (by decide) rfl rfl (Nat.le_of_ble_eq_true rfl) ⟨Nat.zero_le _, Nat.zero_le _⟩ (fun r1 u2 w3 => ?_)
  have h4 := w3.2
  refine v_topi ((linV T n mo li 2)) w3.1 ?_
  refine v_topi ((T (li * 6 + 2))) (rfl) ?_
  refine v_icmp_lt F 44 dL_counts_7 (by decide) (fun h7 => ?_) (fun h7 => ?_)
  · refine v_iconst (v := nI 0) F dL_counts_44 (by decide) ?_
    exact v_zret F hr hlk hQ rfl dL_counts_45 ((u2.1, u2.2.1, u2.2.2)) rfl (by refine ⟨?_, h4.1, h4.2.1, h4.2.2⟩; simp [cnt, spB, lvB, inB, bI, nI_one, *]; try rfl)
  · refine v_iload_n F dL_counts_10 2 rfl rfl ?_
    refine v_aload_n F dL_counts_11 0 rfl rfl ?_
    refine v_iload_n F dL_counts_12 1 rfl rfl ?_
    refine v_iconst (v := nI 3) F dL_counts_13 (by decide) ?_
    refine v_cVIF F cs_RL_9 dL_counts_14 0 (ci := 7) rfl rfl (m_X7_line lau G ad T n mo ver S h u2.1 u2.2.1 u2.2.2 Tx Rd li 3 (by omega) (by omega) (by omega) hT h4.1 h4.2.1 h4.2.2) (by decide) rfl rfl (Nat.le_of_ble_eq_true rfl) ⟨Nat.zero_le _, Nat.zero_le _⟩ (fun r5 u6 w7 => ?_)
    have h8 := w7.2
    refine v_topi ((linV T n mo li 3)) w7.1 ?_
    refine v_topi ((T (li * 6 + 3))) (rfl) ?_
    refine v_icmp_gt F 44 dL_counts_17 (by decide) (fun h17 => ?_) (fun h17 => ?_)
    · refine v_iconst (v := nI 0) F dL_counts_44 (by decide) ?_
      exact v_zret F hr hlk hQ rfl dL_counts_45 ((u6.1, u6.2.1, u6.2.2)) rfl (by refine ⟨?_, h8.1, h8.2.1, h8.2.2⟩; simp [cnt, spB, lvB, inB, bI, nI_one, *]; try rfl)
    · refine v_iload_n F dL_counts_20 3 rfl rfl ?_
      refine v_aload_n F dL_counts_21 0 rfl rfl ?_
      refine v_iload_n F dL_counts_22 1 rfl rfl ?_
      refine v_iconst (v := nI 4) F dL_counts_23 (by decide) ?_
      refine v_cVIF F cs_RL_9 dL_counts_24 0 (ci := 7) rfl rfl (m_X7_line lau G ad T n mo ver S h u6.1 u6.2.1 u6.2.2 Tx Rd li 4 (by omega) (by omega) (by omega) hT h8.1 h8.2.1 h8.2.2) (by decide) rfl rfl (Nat.le_of_ble_eq_true rfl) ⟨Nat.zero_le _, Nat.zero_le _⟩ (fun r9 u10 w11 => ?_)
      have h12 := w11.2
      refine v_topi ((linV T n mo li 4)) w11.1 ?_
      refine v_topi ((T (li * 6 + 4))) (rfl) ?_
      refine v_icmp_lt F 44 dL_counts_27 (by decide) (fun h27 => ?_) (fun h27 => ?_)
      · refine v_iconst (v := nI 0) F dL_counts_44 (by decide) ?_
        exact v_zret F hr hlk hQ rfl dL_counts_45 ((u10.1, u10.2.1, u10.2.2)) rfl (by refine ⟨?_, h12.1, h12.2.1, h12.2.2⟩; simp [cnt, spB, lvB, inB, bI, nI_one, *]; try rfl)
      · refine v_iload_n F dL_counts_30 3 rfl rfl ?_
        refine v_aload_n F dL_counts_31 0 rfl rfl ?_
        refine v_iload_n F dL_counts_32 1 rfl rfl ?_
        refine v_iconst (v := nI 5) F dL_counts_33 (by decide) ?_
        refine v_cVIF F cs_RL_9 dL_counts_34 0 (ci := 7) rfl rfl (m_X7_line lau G ad T n mo ver S h u10.1 u10.2.1 u10.2.2 Tx Rd li 5 (by omega) (by omega) (by omega) hT h12.1 h12.2.1 h12.2.2) (by decide) rfl rfl (Nat.le_of_ble_eq_true rfl) ⟨Nat.zero_le _, Nat.zero_le _⟩ (fun r13 u14 w15 => ?_)
        have h16 := w15.2
        refine v_topi ((linV T n mo li 5)) w15.1 ?_
        refine v_topi ((T (li * 6 + 5))) (rfl) ?_
        refine v_icmp_gt F 44 dL_counts_37 (by decide) (fun h37 => ?_) (fun h37 => ?_)
        · refine v_iconst (v := nI 0) F dL_counts_44 (by decide) ?_
          exact v_zret F hr hlk hQ rfl dL_counts_45 ((u14.1, u14.2.1, u14.2.2)) rfl (by refine ⟨?_, h16.1, h16.2.1, h16.2.2⟩; simp [cnt, spB, lvB, inB, bI, nI_one, *]; try rfl)
        · refine v_iconst (v := nI 1) F dL_counts_40 (by decide) ?_
          refine v_goto F 45 dL_counts_41 (by decide) ?_
          exact v_zret F hr hlk hQ rfl dL_counts_45 ((u14.1, u14.2.1, u14.2.2)) rfl (by refine ⟨?_, h16.1, h16.2.1, h16.2.2⟩; simp [cnt, spB, lvB, inB, bI, nI_one, *]; try rfl)
theorem cs_RL_15 : CSV RL 15 RX7 yX7_count cX7_count 2 (some .int) 1 := ⟨wC_yX7_count, wM_RL_15, wIm_yX7_count, wSe_yX7_count, wI_RX7, by decide +kernel, by decide⟩
theorem cs_RL_19 : CSS RL 19 yL_counts cL_counts 4 (some .boolean) 4 := ⟨wC_yL_counts, wM_RL_19, wSt_yL_counts, wI_RL, by decide +kernel, by decide⟩
theorem cs_RL_25 : CSS RL 25 yL_valueOf cL_valueOf 3 (some .int) 3 := ⟨wC_yL_valueOf, wM_RL_25, wSt_yL_valueOf, wI_RL, by decide +kernel, by decide⟩
set_option maxHeartbeats 4000000 in
set_option maxRecDepth 100000 in
theorem m_L_lowest (lau : Launch) (G : GT) (ad : Nat → Nat) (T : Nat → Int32) (n mo ver : Nat) (S : Nat → Int32) (h : Nat) (P : PT) (Tr : TT) (Rg : RT) (Tx : XT) (Rd : DT) (x t : Nat) (hn : n ≤ 20) (hT : TOK T n) (hP : PCI T n mo ver P) (hC : TCI T n mo ver Tr) (hR : RCI T n ver Rg) : MI lau G 16 yL_lowest cL_lowest 5 (some .int) [.ref (ad 0), .int (nI x), .int (nI t)] (wC ad G (T, n, mo, ver) (S, h) P Tr Rg Tx Rd) (fun u : PT × TT × RT => wC ad G (T, n, mo, ver) (S, h) u.1 u.2.1 u.2.2 Tx Rd) (fun r u => r = oI (lb T x t (-1) n) ∧ PCI T n mo ver u.1 ∧ TCI T n mo ver u.2.1 ∧ RCI T n ver u.2.2) := by
  refine mi_of (by decide +kernel) (Nat.le_of_ble_eq_true rfl) ?_
  intro p e s m args below meth c A Q F hr hlk hQ
  refine v_st (w' := wC ad G (T, n, mo, ver) (S, h) P Tr Rg Tx Rd) (pc' := 0) (st' := []) rfl rfl rfl [0, 1, 2] (lv' := [(0, .ref (ad 0)), (1, .int (nI x)), (2, .int (nI t))]) rfl ?_
  refine v_iconst (v := (-1)) F dL_lowest_0 (by decide) ?_
  refine v_istore_n (lv' := [(3, .int (-1)), (0, .ref (ad 0)), (1, .int (nI x)), (2, .int (nI t))]) F dL_lowest_1 3 rfl (by decide) rfl ?_
  refine v_iconst (v := nI 0) F dL_lowest_2 (by decide) ?_
  refine v_istore (lv' := [(4, .int (nI 0)), (3, .int (-1)), (0, .ref (ad 0)), (1, .int (nI x)), (2, .int (nI t))]) F dL_lowest_3 (by decide) rfl ?_
  have L5 : ∀ (k_ : Nat) (i : Nat) (fv : Int32) (P_ : PT) (Tr_ : TT) (Rg_ : RT), n - i < k_ → (i ≤ n) → (fv = oI (lb T x t (-1) i)) → (PCI T n mo ver P_) → (TCI T n mo ver Tr_) → (RCI T n ver Rg_) → V p lau e (RM 16) s m args below meth c 5 G A Q (wC ad G (T, n, mo, ver) (S, h) P_ Tr_ Rg_ Tx Rd) 0 0 5 [(4, .int (nI i)), (3, .int fv), (0, .ref (ad 0)), (1, .int (nI x)), (2, .int (nI t))] [] := by
    intro k_
    induction k_ with
    | zero => exact fun i fv P_ Tr_ Rg_ hk_ hi hs hP_ hC_ hR_ => absurd hk_ (Nat.not_lt_zero _)
    | succ k_ ih5 =>
      intro i fv P_ Tr_ Rg_ hk_5 hi hs hP_ hC_ hR_
      refine v_iload F dL_lowest_5 rfl ?_
      refine v_aload_n F dL_lowest_7 0 rfl rfl ?_
      refine v_iconst (v := nI 1) F dL_lowest_8 (by decide) ?_
      refine v_cVIF F cs_RL_15 dL_lowest_9 0 (ci := 7) rfl rfl (m_X7_count lau G ad T n mo ver S h P_ Tr_ Rg_ Tx Rd 1 (by omega) (by omega) hT hP_ hC_ hR_) (by decide) rfl rfl (Nat.le_of_ble_eq_true rfl) ⟨Nat.zero_le _, Nat.zero_le _⟩ (fun r1 u2 w3 => ?_)
      have h4 := w3.2
      refine v_topi ((cntV T n mo h 1)) w3.1 ?_
      refine v_topi (nI n) (rfl) ?_
      refine v_icmp_ge F 60 dL_lowest_12 (by decide) (fun c5 => ?_) (fun c5 => ?_)
      · replace c5 := nG (a := i) (b := n) (by omega) (by omega) c5
        refine v_iload_n F dL_lowest_60 3 rfl rfl ?_
        exact v_iret F hr hlk hQ dL_lowest_61 ((u2.1, u2.2.1, u2.2.2)) rfl (by refine ⟨?_, h4.1, h4.2.1, h4.2.2⟩; rw [hs, show i = n by omega])
      · replace c5 := nGn (a := i) (b := n) (by omega) (by omega) c5
        refine v_aload_n F dL_lowest_15 0 rfl rfl ?_
        refine v_iload F dL_lowest_16 rfl ?_
        refine v_iload_n F dL_lowest_18 1 rfl rfl ?_
        refine v_iload_n F dL_lowest_19 2 rfl rfl ?_
        refine v_cSIF F cs_RL_19 dL_lowest_20 (m_L_counts lau G ad T n mo ver S h u2.1 u2.2.1 u2.2.2 Tx Rd i x t (by omega) (by omega) hT h4.1 h4.2.1 h4.2.2) (by decide) rfl rfl (Nat.le_of_ble_eq_true rfl) ⟨Nat.zero_le _, Nat.zero_le _⟩ (fun r6 u7 w8 => ?_)
        have h9 := w8.2
        refine v_topi (bI (cnt T i x t)) w8.1 ?_
        refine v_if_eq F 52 dL_lowest_23 (by decide) (fun hct => ?_) (fun hct => ?_)
        · replace hct := bI_f hct
          refine v_iload_n F dL_lowest_52 3 rfl rfl ?_
          refine v_istore_n (lv' := [(3, .int fv), (4, .int (nI i)), (0, .ref (ad 0)), (1, .int (nI x)), (2, .int (nI t))]) F dL_lowest_53 3 rfl (by decide) rfl ?_
          refine v_iinc (lv' := [(4, .int (nI (i + 1))), (3, .int fv), (0, .ref (ad 0)), (1, .int (nI x)), (2, .int (nI t))]) F (nI (i + 1)) dL_lowest_54 rfl (nI_add i 1) (by decide) rfl ?_
          refine v_goto F 5 dL_lowest_57 (by decide) ?_
          refine v_st (w' := wC ad G (T, n, mo, ver) (S, h) u7.1 u7.2.1 u7.2.2 Tx Rd) (pc' := 5) (st' := []) rfl rfl rfl [0, 1, 2, 3, 4] (lv' := [(4, .int (nI (i + 1))), (3, .int fv), (0, .ref (ad 0)), (1, .int (nI x)), (2, .int (nI t))]) rfl ?_
          exact ih5 (i + 1) fv u7.1 u7.2.1 u7.2.2 (by omega) (by omega) (by first | (rw [lb_b hct, hs]; done) | (rw [lb_c (nI_neO (by omega)) hct (by omega) (by rw [hg]; rfl)]; rfl) | (rw [lb_d (by rw [hg]; exact nI_neO (by omega)) (by rw [hg]; exact h44), hs]; done) | (rw [lb_e (nI_neO (by omega)) hct (by rw [hg]; exact nI_neO (by omega)) (by rw [hg]; exact h44)]; rfl)) (h9.1) (h9.2.1) (h9.2.2)
        · replace hct := bI_t hct
          refine v_iload_n F dL_lowest_26 3 rfl rfl ?_
          rcases hg : lb T x t (-1) i with _ | g
          · refine v_topi (-1) (by rw [hs, hg]; rfl) ?_
            refine v_iconst (v := (-1)) F dL_lowest_27 (by decide) ?_
            refine v_icmp_eq F 47 dL_lowest_28 (by decide) (fun _ => ?_) (fun h => absurd h (by decide))
            refine v_iload F dL_lowest_47 rfl ?_
            refine v_goto F 53 dL_lowest_49 (by decide) ?_
            refine v_istore_n (lv' := [(3, .int (nI i)), (4, .int (nI i)), (0, .ref (ad 0)), (1, .int (nI x)), (2, .int (nI t))]) F dL_lowest_53 3 rfl (by decide) rfl ?_
            refine v_iinc (lv' := [(4, .int (nI (i + 1))), (3, .int (nI i)), (0, .ref (ad 0)), (1, .int (nI x)), (2, .int (nI t))]) F (nI (i + 1)) dL_lowest_54 rfl (nI_add i 1) (by decide) rfl ?_
            refine v_goto F 5 dL_lowest_57 (by decide) ?_
            refine v_st (w' := wC ad G (T, n, mo, ver) (S, h) u7.1 u7.2.1 u7.2.2 Tx Rd) (pc' := 5) (st' := []) rfl rfl rfl [0, 1, 2, 3, 4] (lv' := [(4, .int (nI (i + 1))), (3, .int (nI i)), (0, .ref (ad 0)), (1, .int (nI x)), (2, .int (nI t))]) rfl ?_
            exact ih5 (i + 1) (nI i) u7.1 u7.2.1 u7.2.2 (by omega) (by omega) (by first | (rw [lb_b hct, hs]; done) | (rw [lb_c (nI_neO (by omega)) hct (by omega) (by rw [hg]; rfl)]; rfl) | (rw [lb_d (by rw [hg]; exact nI_neO (by omega)) (by rw [hg]; exact h44), hs]; done) | (rw [lb_e (nI_neO (by omega)) hct (by rw [hg]; exact nI_neO (by omega)) (by rw [hg]; exact h44)]; rfl)) (h9.1) (h9.2.1) (h9.2.2)
          · have hgl := lb_lt _ _ _ _ _ _ hg
            refine v_topi (nI g) (by rw [hs, hg]; rfl) ?_
            refine v_iconst (v := (-1)) F dL_lowest_27 (by decide) ?_
            refine v_icmp_eq F 47 dL_lowest_28 (by decide) (fun c10 => ?_) (fun c10 => ?_)
            · exact absurd c10 (nI_ne1 (by omega))
            · refine v_aload_n F dL_lowest_31 0 rfl rfl ?_
              refine v_iload F dL_lowest_32 rfl ?_
              refine v_iload_n F dL_lowest_34 1 rfl rfl ?_
              refine v_cSIF F cs_RL_25 dL_lowest_35 (m_L_valueOf lau G ad T n mo ver S h u7.1 u7.2.1 u7.2.2 Tx Rd i x (by omega) (by omega) hT h9.1 h9.2.1 h9.2.2) (by decide) rfl rfl (Nat.le_of_ble_eq_true rfl) ⟨Nat.zero_le _, Nat.zero_le _⟩ (fun r11 u12 w13 => ?_)
              have h14 := w13.2
              refine v_topi ((pVal T i x)) w13.1 ?_
              refine v_aload_n F dL_lowest_38 0 rfl rfl ?_
              refine v_iload_n F dL_lowest_39 3 rfl rfl ?_
              refine v_topi (nI g) (by rw [hs, hg]; rfl) ?_
              refine v_iload_n F dL_lowest_40 1 rfl rfl ?_
              refine v_cSIF F cs_RL_25 dL_lowest_41 (m_L_valueOf lau G ad T n mo ver S h u12.1 u12.2.1 u12.2.2 Tx Rd g x (by omega) (by omega) hT h14.1 h14.2.1 h14.2.2) (by decide) rfl rfl (Nat.le_of_ble_eq_true rfl) ⟨Nat.zero_le _, Nat.zero_le _⟩ (fun r15 u16 w17 => ?_)
              have h18 := w17.2
              refine v_topi ((pVal T g x)) w17.1 ?_
              refine v_icmp_ge F 52 dL_lowest_44 (by decide) (fun h44 => ?_) (fun h44 => ?_)
              · refine v_iload_n F dL_lowest_52 3 rfl rfl ?_
                refine v_istore_n (lv' := [(3, .int fv), (4, .int (nI i)), (0, .ref (ad 0)), (1, .int (nI x)), (2, .int (nI t))]) F dL_lowest_53 3 rfl (by decide) rfl ?_
                refine v_iinc (lv' := [(4, .int (nI (i + 1))), (3, .int fv), (0, .ref (ad 0)), (1, .int (nI x)), (2, .int (nI t))]) F (nI (i + 1)) dL_lowest_54 rfl (nI_add i 1) (by decide) rfl ?_
                refine v_goto F 5 dL_lowest_57 (by decide) ?_
                refine v_st (w' := wC ad G (T, n, mo, ver) (S, h) u16.1 u16.2.1 u16.2.2 Tx Rd) (pc' := 5) (st' := []) rfl rfl rfl [0, 1, 2, 3, 4] (lv' := [(4, .int (nI (i + 1))), (3, .int fv), (0, .ref (ad 0)), (1, .int (nI x)), (2, .int (nI t))]) rfl ?_
                exact ih5 (i + 1) fv u16.1 u16.2.1 u16.2.2 (by omega) (by omega) (by first | (rw [lb_b hct, hs]; done) | (rw [lb_c (nI_neO (by omega)) hct (by omega) (by rw [hg]; rfl)]; rfl) | (rw [lb_d (by rw [hg]; exact nI_neO (by omega)) (by rw [hg]; exact h44), hs]; done) | (rw [lb_e (nI_neO (by omega)) hct (by rw [hg]; exact nI_neO (by omega)) (by rw [hg]; exact h44)]; rfl)) (h18.1) (h18.2.1) (h18.2.2)
              · refine v_iload F dL_lowest_47 rfl ?_
                refine v_goto F 53 dL_lowest_49 (by decide) ?_
                refine v_istore_n (lv' := [(3, .int (nI i)), (4, .int (nI i)), (0, .ref (ad 0)), (1, .int (nI x)), (2, .int (nI t))]) F dL_lowest_53 3 rfl (by decide) rfl ?_
                refine v_iinc (lv' := [(4, .int (nI (i + 1))), (3, .int (nI i)), (0, .ref (ad 0)), (1, .int (nI x)), (2, .int (nI t))]) F (nI (i + 1)) dL_lowest_54 rfl (nI_add i 1) (by decide) rfl ?_
                refine v_goto F 5 dL_lowest_57 (by decide) ?_
                refine v_st (w' := wC ad G (T, n, mo, ver) (S, h) u16.1 u16.2.1 u16.2.2 Tx Rd) (pc' := 5) (st' := []) rfl rfl rfl [0, 1, 2, 3, 4] (lv' := [(4, .int (nI (i + 1))), (3, .int (nI i)), (0, .ref (ad 0)), (1, .int (nI x)), (2, .int (nI t))]) rfl ?_
                exact ih5 (i + 1) (nI i) u16.1 u16.2.1 u16.2.2 (by omega) (by omega) (by first | (rw [lb_b hct, hs]; done) | (rw [lb_c (nI_neO (by omega)) hct (by omega) (by rw [hg]; rfl)]; rfl) | (rw [lb_d (by rw [hg]; exact nI_neO (by omega)) (by rw [hg]; exact h44), hs]; done) | (rw [lb_e (nI_neO (by omega)) hct (by rw [hg]; exact nI_neO (by omega)) (by rw [hg]; exact h44)]; rfl)) (h18.1) (h18.2.1) (h18.2.2)
  refine v_st (w' := wC ad G (T, n, mo, ver) (S, h) P Tr Rg Tx Rd) (pc' := 5) (st' := []) rfl rfl rfl [0, 1, 2, 3, 4] (lv' := [(4, .int (nI 0)), (3, .int (-1)), (0, .ref (ad 0)), (1, .int (nI x)), (2, .int (nI t))]) rfl ?_
  exact L5 _ 0 (-1) P Tr Rg (Nat.lt_succ_self _) (by omega) (rfl) (hP) (hC) (hR)
