theorem cs_RX8_165 : CSV RX8 165 RX8 yX8_firstMoment cX8_firstMoment 4 (some .int) 1 := ⟨wC_yX8_firstMoment, wM_RX8_165, wIm_yX8_firstMoment, wSe_yX8_firstMoment, wI_RX8, by decide +kernel, by decide⟩
set_option maxHeartbeats 400000 in
set_option maxRecDepth 100000 in
theorem m_X8_ofLine (lau : Launch) (G : GT) (ad : Nat → Nat) (T : Nat → Int32) (n mo : Nat) (Hs : HT) (Xt : XT) (Tw : Nat) (Qs : QT) (ke sp : Nat → Int32) (Lo Wi : Nat → Int32) (l wj : Nat) (hl : l < n) (hw : wj ≤ 8) (hn : n ≤ 20) (hT : TOK T n) : MI lau G 6 yX8_ofLine cX8_ofLine 5 (some .int) [.ref (ad 0), .int (nI l), .int (nI wj)] (wM ad G (snp T n mo) Hs Xt Tw Qs (ke, sp) Lo Wi) (fun u : KS × (Nat → Int32) => wM ad G (snp T n mo) Hs Xt Tw Qs u.1 u.2 Wi) (fun r u => r = linV T n mo l wj) := by
  have h0 := kp0 (T := T) (n := n) (mo := mo) hn hT
  refine mi_of (by decide +kernel) (Nat.le_of_ble_eq_true rfl) ?_
  intro p e s m args below meth c A Q F hr hlk hQ
  refine v_st (w' := wM ad G (snp T n mo) Hs Xt Tw Qs (ke, sp) Lo Wi) (pc' := 0) (st' := []) rfl rfl rfl [0, 1, 2] (lv' := [(0, .ref (ad 0)), (1, .int (nI l)), (2, .int (nI wj))]) rfl ?_
  refine v_iload_n F dX8_ofLine_0 2 rfl rfl ?_
  refine v_bipush (v := nI 6) F dX8_ofLine_1 (by decide) ?_
  refine v_icmp_ge F 13 dX8_ofLine_3 (by decide) (fun c1 => ?_) (fun c1 => ?_)
  · replace c1 := nG (a := wj) (b := 6) (by omega) (by decide) c1
    refine v_iload_n F dX8_ofLine_13 2 rfl rfl ?_
    refine v_bipush (v := nI 8) F dX8_ofLine_14 (by decide) ?_
    refine v_icmp_ne F 25 dX8_ofLine_16 (by decide) (fun c2 => ?_) (fun c2 => ?_)
    · replace c2 := nEn (a := wj) (b := 8) (by omega) (by decide) c2
      refine v_aload_n F dX8_ofLine_25 0 rfl rfl ?_
      refine v_cVVF F cs_RX8_168 dX8_ofLine_26 0 (ci := 8) rfl rfl (m_X8_lowers lau G ad T n mo Hs Xt Tw Qs (ke, sp) Lo Wi (by omega)) (by decide) rfl rfl (Nat.le_of_ble_eq_true rfl) ⟨Nat.zero_le _, Nat.zero_le _⟩ (fun u4 w5 => ?_)
      refine v_aload_n F dX8_ofLine_29 0 rfl rfl ?_
      refine v_cVVF F cs_RX8_171 dX8_ofLine_30 0 (ci := 8) rfl rfl (m_X8_grows lau G ad T n mo Hs Xt Tw Qs ke sp u4 Wi (by omega) hT) (by decide) rfl rfl (Nat.le_of_ble_eq_true rfl) ⟨Nat.zero_le _, Nat.zero_le _⟩ (fun u7 w8 => ?_)
      refine v_iconst (v := nI 0) F dX8_ofLine_33 (by decide) ?_
      refine v_istore_n (lv' := [(3, .int (nI 0)), (0, .ref (ad 0)), (1, .int (nI l)), (2, .int (nI wj))]) F dX8_ofLine_34 3 rfl (by decide) rfl ?_
      refine v_iconst (v := nI 0) F dX8_ofLine_35 (by decide) ?_
      refine v_istore (lv' := [(4, .int (nI 0)), (3, .int (nI 0)), (0, .ref (ad 0)), (1, .int (nI l)), (2, .int (nI wj))]) F dX8_ofLine_36 (by decide) rfl ?_
      have L38 : ∀ (k_ : Nat) (k : Nat) (c_ : Nat), 128 - k < k_ → (k ≤ 128) → (wj = 6 → k ≤ 64) → (wj = 6 → c_ = plc T n mo (nI l) k) → (¬ wj = 6 → c_ = nds T n mo (nI l) k) → V p lau e (RM 6) s m args below meth c 5 G A Q (wM ad G (snp T n mo) Hs Xt Tw Qs u7 u4 Wi) 0 0 38 [(4, .int (nI k)), (3, .int (nI c_)), (0, .ref (ad 0)), (1, .int (nI l)), (2, .int (nI wj))] [] := by
        intro k_
        induction k_ with
        | zero => exact fun k c_ hk_ hk hk6 hc6 hc7 => absurd hk_ (Nat.not_lt_zero _)
        | succ k_ ih38 =>
          intro k c_ hk_38 hk hk6 hc6 hc7
          refine v_iload F dX8_ofLine_38 rfl ?_
          refine v_iload_n F dX8_ofLine_40 2 rfl rfl ?_
          refine v_bipush (v := nI 6) F dX8_ofLine_41 (by decide) ?_
          refine v_icmp_ne F 51 dX8_ofLine_43 (by decide) (fun h43 => ?_) (fun h43 => ?_)
          · replace h43 := nEn (a := wj) (b := 6) (by omega) (by decide) h43
            refine v_sipush (v := nI 128) F dX8_ofLine_51 (by decide) ?_
            refine v_icmp_ge F 98 dX8_ofLine_54 (by decide) (fun h54 => ?_) (fun h54 => ?_)
            · replace h54 := nG (a := k) (b := 128) (by omega) (by decide) h54
              refine v_iload_n F dX8_ofLine_98 3 rfl rfl ?_
              exact v_iret F hr hlk hQ dX8_ofLine_99 ((u7, u4)) rfl (by first | exact ofl_6 h43 hc6 (by have := hk6 h43; omega) | exact ofl_7 (by omega) hc7 (by omega))
            · replace h54 := nGn (a := k) (b := 128) (by omega) (by decide) h54
              refine v_iload_n F dX8_ofLine_57 3 rfl rfl ?_
              refine v_iload_n F dX8_ofLine_58 2 rfl rfl ?_
              refine v_bipush (v := nI 6) F dX8_ofLine_59 (by decide) ?_
              refine v_icmp_ne F 74 dX8_ofLine_61 (by decide) (fun h61 => ?_) (fun h61 => ?_)
              · replace h61 := nEn (a := wj) (b := 6) (by omega) (by decide) h61
                refine v_aload_n F dX8_ofLine_74 0 rfl rfl ?_
                refine v_get (v := .ref (ad 5)) F inlX8 (ci := 8) rfl 11 (by decide) rfl wF_RX8_22 dX8_ofLine_75 0 rfl rfl ?_
                refine v_iload F dX8_ofLine_78 rfl ?_
                refine v_ialdN F dX8_ofLine_80 5 rfl k rfl (by omega) (by decide) (u7.1 k) rfl ?_
                refine v_topi ((kp T n mo k)) ((w8 _ (by omega)).1) ?_
                refine v_iload_n F dX8_ofLine_81 1 rfl rfl ?_
                refine v_icmp_ne F 89 dX8_ofLine_82 (by decide) (fun h82 => ?_) (fun h82 => ?_)
                · refine v_iconst (v := nI 0) F dX8_ofLine_89 (by decide) ?_
                  refine v_iadd F dX8_ofLine_90 ?_
                  refine v_topi (nI (c_ + 0)) (nI_add c_ 0) ?_
                  refine v_istore_n (lv' := [(3, .int (nI (c_ + 0))), (4, .int (nI k)), (0, .ref (ad 0)), (1, .int (nI l)), (2, .int (nI wj))]) F dX8_ofLine_91 3 rfl (by decide) rfl ?_
                  refine v_iinc (lv' := [(4, .int (nI (k + 1))), (3, .int (nI (c_ + 0))), (0, .ref (ad 0)), (1, .int (nI l)), (2, .int (nI wj))]) F (nI (k + 1)) dX8_ofLine_92 rfl (nI_add k 1) (by decide) rfl ?_
                  refine v_goto F 38 dX8_ofLine_95 (by decide) ?_
                  refine v_st (w' := wM ad G (snp T n mo) Hs Xt Tw Qs u7 u4 Wi) (pc' := 38) (st' := []) rfl rfl rfl [0, 1, 2, 3, 4] (lv' := [(4, .int (nI (k + 1))), (3, .int (nI (c_ + 0))), (0, .ref (ad 0)), (1, .int (nI l)), (2, .int (nI wj))]) rfl ?_
                  exact ih38 (k + 1) (c_ + 0) (by omega) (by omega) (by omega) (by intro q; first | exact absurd q h61 | (rw [plc_y h82, hc6 q]; done) | (rw [plc_x h82, hc6 q] <;> rfl)) (by intro q; first | exact absurd h61 q | (rw [nds_y h0 (by omega) h82, hc7 q]; done) | (rw [nds_x h82, hc7 q] <;> rfl))
                · refine v_iconst (v := nI 1) F dX8_ofLine_85 (by decide) ?_
                  refine v_goto F 90 dX8_ofLine_86 (by decide) ?_
                  refine v_iadd F dX8_ofLine_90 ?_
                  refine v_topi (nI (c_ + 1)) (nI_add c_ 1) ?_
                  refine v_istore_n (lv' := [(3, .int (nI (c_ + 1))), (4, .int (nI k)), (0, .ref (ad 0)), (1, .int (nI l)), (2, .int (nI wj))]) F dX8_ofLine_91 3 rfl (by decide) rfl ?_
                  refine v_iinc (lv' := [(4, .int (nI (k + 1))), (3, .int (nI (c_ + 1))), (0, .ref (ad 0)), (1, .int (nI l)), (2, .int (nI wj))]) F (nI (k + 1)) dX8_ofLine_92 rfl (nI_add k 1) (by decide) rfl ?_
                  refine v_goto F 38 dX8_ofLine_95 (by decide) ?_
                  refine v_st (w' := wM ad G (snp T n mo) Hs Xt Tw Qs u7 u4 Wi) (pc' := 38) (st' := []) rfl rfl rfl [0, 1, 2, 3, 4] (lv' := [(4, .int (nI (k + 1))), (3, .int (nI (c_ + 1))), (0, .ref (ad 0)), (1, .int (nI l)), (2, .int (nI wj))]) rfl ?_
                  exact ih38 (k + 1) (c_ + 1) (by omega) (by omega) (by omega) (by intro q; first | exact absurd q h61 | (rw [plc_y h82, hc6 q]; done) | (rw [plc_x h82, hc6 q] <;> rfl)) (by intro q; first | exact absurd h61 q | (rw [nds_y h0 (by omega) h82, hc7 q]; done) | (rw [nds_x h82, hc7 q] <;> rfl))
              · replace h61 := nE (a := wj) (b := 6) (by omega) (by decide) h61
                refine v_aload_n F dX8_ofLine_64 0 rfl rfl ?_
                refine v_get (v := .ref (ad 7)) F inlX8 (ci := 8) rfl 13 (by decide) rfl wF_RX8_28 dX8_ofLine_65 0 rfl rfl ?_
                refine v_iload F dX8_ofLine_68 rfl ?_
                refine v_ialdN F dX8_ofLine_70 7 rfl k rfl (by omega) (by decide) (u4 k) rfl ?_
                refine v_topi ((plo T n mo k)) (w5 _ (by omega)) ?_
                refine v_goto F 81 dX8_ofLine_71 (by decide) ?_
                refine v_iload_n F dX8_ofLine_81 1 rfl rfl ?_
                refine v_icmp_ne F 89 dX8_ofLine_82 (by decide) (fun h82 => ?_) (fun h82 => ?_)
                · refine v_iconst (v := nI 0) F dX8_ofLine_89 (by decide) ?_
                  refine v_iadd F dX8_ofLine_90 ?_
                  refine v_topi (nI (c_ + 0)) (nI_add c_ 0) ?_
                  refine v_istore_n (lv' := [(3, .int (nI (c_ + 0))), (4, .int (nI k)), (0, .ref (ad 0)), (1, .int (nI l)), (2, .int (nI wj))]) F dX8_ofLine_91 3 rfl (by decide) rfl ?_
                  refine v_iinc (lv' := [(4, .int (nI (k + 1))), (3, .int (nI (c_ + 0))), (0, .ref (ad 0)), (1, .int (nI l)), (2, .int (nI wj))]) F (nI (k + 1)) dX8_ofLine_92 rfl (nI_add k 1) (by decide) rfl ?_
                  refine v_goto F 38 dX8_ofLine_95 (by decide) ?_
                  refine v_st (w' := wM ad G (snp T n mo) Hs Xt Tw Qs u7 u4 Wi) (pc' := 38) (st' := []) rfl rfl rfl [0, 1, 2, 3, 4] (lv' := [(4, .int (nI (k + 1))), (3, .int (nI (c_ + 0))), (0, .ref (ad 0)), (1, .int (nI l)), (2, .int (nI wj))]) rfl ?_
                  exact ih38 (k + 1) (c_ + 0) (by omega) (by omega) (by omega) (by intro q; first | exact absurd q h61 | (rw [plc_y h82, hc6 q]; done) | (rw [plc_x h82, hc6 q] <;> rfl)) (by intro q; first | exact absurd h61 q | (rw [nds_y h0 (by omega) h82, hc7 q]; done) | (rw [nds_x h82, hc7 q] <;> rfl))
                · refine v_iconst (v := nI 1) F dX8_ofLine_85 (by decide) ?_
                  refine v_goto F 90 dX8_ofLine_86 (by decide) ?_
                  refine v_iadd F dX8_ofLine_90 ?_
                  refine v_topi (nI (c_ + 1)) (nI_add c_ 1) ?_
                  refine v_istore_n (lv' := [(3, .int (nI (c_ + 1))), (4, .int (nI k)), (0, .ref (ad 0)), (1, .int (nI l)), (2, .int (nI wj))]) F dX8_ofLine_91 3 rfl (by decide) rfl ?_
                  refine v_iinc (lv' := [(4, .int (nI (k + 1))), (3, .int (nI (c_ + 1))), (0, .ref (ad 0)), (1, .int (nI l)), (2, .int (nI wj))]) F (nI (k + 1)) dX8_ofLine_92 rfl (nI_add k 1) (by decide) rfl ?_
                  refine v_goto F 38 dX8_ofLine_95 (by decide) ?_
                  refine v_st (w' := wM ad G (snp T n mo) Hs Xt Tw Qs u7 u4 Wi) (pc' := 38) (st' := []) rfl rfl rfl [0, 1, 2, 3, 4] (lv' := [(4, .int (nI (k + 1))), (3, .int (nI (c_ + 1))), (0, .ref (ad 0)), (1, .int (nI l)), (2, .int (nI wj))]) rfl ?_
                  exact ih38 (k + 1) (c_ + 1) (by omega) (by omega) (by omega) (by intro q; first | exact absurd q h61 | (rw [plc_y h82, hc6 q]; done) | (rw [plc_x h82, hc6 q] <;> rfl)) (by intro q; first | exact absurd h61 q | (rw [nds_y h0 (by omega) h82, hc7 q]; done) | (rw [nds_x h82, hc7 q] <;> rfl))
          · replace h43 := nE (a := wj) (b := 6) (by omega) (by decide) h43
            refine v_bipush (v := nI 64) F dX8_ofLine_46 (by decide) ?_
            refine v_goto F 54 dX8_ofLine_48 (by decide) ?_
            refine v_icmp_ge F 98 dX8_ofLine_54 (by decide) (fun h54 => ?_) (fun h54 => ?_)
            · replace h54 := nG (a := k) (b := 64) (by omega) (by decide) h54
              refine v_iload_n F dX8_ofLine_98 3 rfl rfl ?_
              exact v_iret F hr hlk hQ dX8_ofLine_99 ((u7, u4)) rfl (by first | exact ofl_6 h43 hc6 (by have := hk6 h43; omega) | exact ofl_7 (by omega) hc7 (by omega))
            · replace h54 := nGn (a := k) (b := 64) (by omega) (by decide) h54
              refine v_iload_n F dX8_ofLine_57 3 rfl rfl ?_
              refine v_iload_n F dX8_ofLine_58 2 rfl rfl ?_
              refine v_bipush (v := nI 6) F dX8_ofLine_59 (by decide) ?_
              refine v_icmp_ne F 74 dX8_ofLine_61 (by decide) (fun h61 => ?_) (fun h61 => ?_)
              · replace h61 := nEn (a := wj) (b := 6) (by omega) (by decide) h61
                refine v_aload_n F dX8_ofLine_74 0 rfl rfl ?_
                refine v_get (v := .ref (ad 5)) F inlX8 (ci := 8) rfl 11 (by decide) rfl wF_RX8_22 dX8_ofLine_75 0 rfl rfl ?_
                refine v_iload F dX8_ofLine_78 rfl ?_
                refine v_ialdN F dX8_ofLine_80 5 rfl k rfl (by omega) (by decide) (u7.1 k) rfl ?_
                refine v_topi ((kp T n mo k)) ((w8 _ (by omega)).1) ?_
                refine v_iload_n F dX8_ofLine_81 1 rfl rfl ?_
                refine v_icmp_ne F 89 dX8_ofLine_82 (by decide) (fun h82 => ?_) (fun h82 => ?_)
                · refine v_iconst (v := nI 0) F dX8_ofLine_89 (by decide) ?_
                  refine v_iadd F dX8_ofLine_90 ?_
                  refine v_topi (nI (c_ + 0)) (nI_add c_ 0) ?_
                  refine v_istore_n (lv' := [(3, .int (nI (c_ + 0))), (4, .int (nI k)), (0, .ref (ad 0)), (1, .int (nI l)), (2, .int (nI wj))]) F dX8_ofLine_91 3 rfl (by decide) rfl ?_
                  refine v_iinc (lv' := [(4, .int (nI (k + 1))), (3, .int (nI (c_ + 0))), (0, .ref (ad 0)), (1, .int (nI l)), (2, .int (nI wj))]) F (nI (k + 1)) dX8_ofLine_92 rfl (nI_add k 1) (by decide) rfl ?_
                  refine v_goto F 38 dX8_ofLine_95 (by decide) ?_
                  refine v_st (w' := wM ad G (snp T n mo) Hs Xt Tw Qs u7 u4 Wi) (pc' := 38) (st' := []) rfl rfl rfl [0, 1, 2, 3, 4] (lv' := [(4, .int (nI (k + 1))), (3, .int (nI (c_ + 0))), (0, .ref (ad 0)), (1, .int (nI l)), (2, .int (nI wj))]) rfl ?_
                  exact ih38 (k + 1) (c_ + 0) (by omega) (by omega) (by omega) (by intro q; first | exact absurd q h61 | (rw [plc_y h82, hc6 q]; done) | (rw [plc_x h82, hc6 q] <;> rfl)) (by intro q; first | exact absurd h61 q | (rw [nds_y h0 (by omega) h82, hc7 q]; done) | (rw [nds_x h82, hc7 q] <;> rfl))
                · refine v_iconst (v := nI 1) F dX8_ofLine_85 (by decide) ?_
                  refine v_goto F 90 dX8_ofLine_86 (by decide) ?_
                  refine v_iadd F dX8_ofLine_90 ?_
                  refine v_topi (nI (c_ + 1)) (nI_add c_ 1) ?_
                  refine v_istore_n (lv' := [(3, .int (nI (c_ + 1))), (4, .int (nI k)), (0, .ref (ad 0)), (1, .int (nI l)), (2, .int (nI wj))]) F dX8_ofLine_91 3 rfl (by decide) rfl ?_
                  refine v_iinc (lv' := [(4, .int (nI (k + 1))), (3, .int (nI (c_ + 1))), (0, .ref (ad 0)), (1, .int (nI l)), (2, .int (nI wj))]) F (nI (k + 1)) dX8_ofLine_92 rfl (nI_add k 1) (by decide) rfl ?_
                  refine v_goto F 38 dX8_ofLine_95 (by decide) ?_
                  refine v_st (w' := wM ad G (snp T n mo) Hs Xt Tw Qs u7 u4 Wi) (pc' := 38) (st' := []) rfl rfl rfl [0, 1, 2, 3, 4] (lv' := [(4, .int (nI (k + 1))), (3, .int (nI (c_ + 1))), (0, .ref (ad 0)), (1, .int (nI l)), (2, .int (nI wj))]) rfl ?_
                  exact ih38 (k + 1) (c_ + 1) (by omega) (by omega) (by omega) (by intro q; first | exact absurd q h61 | (rw [plc_y h82, hc6 q]; done) | (rw [plc_x h82, hc6 q] <;> rfl)) (by intro q; first | exact absurd h61 q | (rw [nds_y h0 (by omega) h82, hc7 q]; done) | (rw [nds_x h82, hc7 q] <;> rfl))
              · replace h61 := nE (a := wj) (b := 6) (by omega) (by decide) h61
                refine v_aload_n F dX8_ofLine_64 0 rfl rfl ?_
                refine v_get (v := .ref (ad 7)) F inlX8 (ci := 8) rfl 13 (by decide) rfl wF_RX8_28 dX8_ofLine_65 0 rfl rfl ?_
                refine v_iload F dX8_ofLine_68 rfl ?_
                refine v_ialdN F dX8_ofLine_70 7 rfl k rfl (by omega) (by decide) (u4 k) rfl ?_
                refine v_topi ((plo T n mo k)) (w5 _ (by omega)) ?_
                refine v_goto F 81 dX8_ofLine_71 (by decide) ?_
                refine v_iload_n F dX8_ofLine_81 1 rfl rfl ?_
                refine v_icmp_ne F 89 dX8_ofLine_82 (by decide) (fun h82 => ?_) (fun h82 => ?_)
                · refine v_iconst (v := nI 0) F dX8_ofLine_89 (by decide) ?_
                  refine v_iadd F dX8_ofLine_90 ?_
                  refine v_topi (nI (c_ + 0)) (nI_add c_ 0) ?_
                  refine v_istore_n (lv' := [(3, .int (nI (c_ + 0))), (4, .int (nI k)), (0, .ref (ad 0)), (1, .int (nI l)), (2, .int (nI wj))]) F dX8_ofLine_91 3 rfl (by decide) rfl ?_
                  refine v_iinc (lv' := [(4, .int (nI (k + 1))), (3, .int (nI (c_ + 0))), (0, .ref (ad 0)), (1, .int (nI l)), (2, .int (nI wj))]) F (nI (k + 1)) dX8_ofLine_92 rfl (nI_add k 1) (by decide) rfl ?_
                  refine v_goto F 38 dX8_ofLine_95 (by decide) ?_
                  refine v_st (w' := wM ad G (snp T n mo) Hs Xt Tw Qs u7 u4 Wi) (pc' := 38) (st' := []) rfl rfl rfl [0, 1, 2, 3, 4] (lv' := [(4, .int (nI (k + 1))), (3, .int (nI (c_ + 0))), (0, .ref (ad 0)), (1, .int (nI l)), (2, .int (nI wj))]) rfl ?_
                  exact ih38 (k + 1) (c_ + 0) (by omega) (by omega) (by omega) (by intro q; first | exact absurd q h61 | (rw [plc_y h82, hc6 q]; done) | (rw [plc_x h82, hc6 q] <;> rfl)) (by intro q; first | exact absurd h61 q | (rw [nds_y h0 (by omega) h82, hc7 q]; done) | (rw [nds_x h82, hc7 q] <;> rfl))
                · refine v_iconst (v := nI 1) F dX8_ofLine_85 (by decide) ?_
                  refine v_goto F 90 dX8_ofLine_86 (by decide) ?_
                  refine v_iadd F dX8_ofLine_90 ?_
                  refine v_topi (nI (c_ + 1)) (nI_add c_ 1) ?_
                  refine v_istore_n (lv' := [(3, .int (nI (c_ + 1))), (4, .int (nI k)), (0, .ref (ad 0)), (1, .int (nI l)), (2, .int (nI wj))]) F dX8_ofLine_91 3 rfl (by decide) rfl ?_
                  refine v_iinc (lv' := [(4, .int (nI (k + 1))), (3, .int (nI (c_ + 1))), (0, .ref (ad 0)), (1, .int (nI l)), (2, .int (nI wj))]) F (nI (k + 1)) dX8_ofLine_92 rfl (nI_add k 1) (by decide) rfl ?_
                  refine v_goto F 38 dX8_ofLine_95 (by decide) ?_
                  refine v_st (w' := wM ad G (snp T n mo) Hs Xt Tw Qs u7 u4 Wi) (pc' := 38) (st' := []) rfl rfl rfl [0, 1, 2, 3, 4] (lv' := [(4, .int (nI (k + 1))), (3, .int (nI (c_ + 1))), (0, .ref (ad 0)), (1, .int (nI l)), (2, .int (nI wj))]) rfl ?_
                  exact ih38 (k + 1) (c_ + 1) (by omega) (by omega) (by omega) (by intro q; first | exact absurd q h61 | (rw [plc_y h82, hc6 q]; done) | (rw [plc_x h82, hc6 q] <;> rfl)) (by intro q; first | exact absurd h61 q | (rw [nds_y h0 (by omega) h82, hc7 q]; done) | (rw [nds_x h82, hc7 q] <;> rfl))
      refine v_st (w' := wM ad G (snp T n mo) Hs Xt Tw Qs u7 u4 Wi) (pc' := 38) (st' := []) rfl rfl rfl [0, 1, 2, 3, 4] (lv' := [(4, .int (nI 0)), (3, .int (nI 0)), (0, .ref (ad 0)), (1, .int (nI l)), (2, .int (nI wj))]) rfl ?_
      exact L38 _ 0 0 (Nat.lt_succ_self _) (by omega) (by omega) (fun _ => rfl) (fun _ => rfl)
    · replace c2 := nE (a := wj) (b := 8) (by omega) (by decide) c2
      refine v_aload_n F dX8_ofLine_19 0 rfl rfl ?_
      refine v_iload_n F dX8_ofLine_20 1 rfl rfl ?_
      refine v_cVIF F cs_RX8_165 dX8_ofLine_21 0 (ci := 8) rfl rfl (m_X8_firstMoment lau G ad T n mo Hs Xt Tw Qs (ke, sp) Lo Wi l (by omega) (by omega) hT) (by decide) rfl rfl (Nat.le_of_ble_eq_true rfl) ⟨Nat.zero_le _, Nat.zero_le _⟩ (fun r9 u10 w11 => ?_)
      refine v_topi ((fmo T n l)) w11 ?_
      exact v_iret F hr hlk hQ dX8_ofLine_24 (((ke, sp), Lo)) rfl (by simp [linV, *])
  · replace c1 := nGn (a := wj) (b := 6) (by omega) (by decide) c1
    refine v_aload_n F dX8_ofLine_6 0 rfl rfl ?_
    refine v_iload_n F dX8_ofLine_7 1 rfl rfl ?_
    refine v_iload_n F dX8_ofLine_8 2 rfl rfl ?_
    refine v_cVIF F cs_RX8_50 dX8_ofLine_9 0 (ci := 8) rfl rfl (m_X8_of lau G ad T n mo Hs Xt Tw Qs (ke, sp) Lo Wi l wj (by omega) (by omega)) (by decide) rfl rfl (Nat.le_of_ble_eq_true rfl) ⟨Nat.zero_le _, Nat.zero_le _⟩ (fun r12 u13 w14 => ?_)
    subst w14
    exact v_iret F hr hlk hQ dX8_ofLine_12 (((ke, sp), Lo)) rfl (by simp [linV, show ¬ wj = 6 by omega, show ¬ wj = 7 by omega, show ¬ wj = 8 by omega])
theorem cs_RX8_174 : CSV RX8 174 RX8 yX8_ofLine cX8_ofLine 5 (some .int) 2 := ⟨wC_yX8_ofLine, wM_RX8_174, wIm_yX8_ofLine, wSe_yX8_ofLine, wI_RX8, by decide +kernel, by decide⟩
set_option maxHeartbeats 400000 in
set_option maxRecDepth 100000 in
theorem m_X8_line (lau : Launch) (G : GT) (ad : Nat → Nat) (T : Nat → Int32) (n mo : Nat) (Hs : HT) (Xt : XT) (Tw : Nat) (Qs : QT) (ke sp : Nat → Int32) (Lo Wi : Nat → Int32) (line wh : Int32) (hn : n ≤ 20) (hT : TOK T n) : MI lau G 8 yX8_line cX8_line 3 (some .int) [.ref (ad 0), .int line, .int wh] (wM ad G (snp T n mo) Hs Xt Tw Qs (ke, sp) Lo Wi) (fun u : MS => wM ad G u.1 u.2.1 u.2.2.1 (xLine n line wh) u.2.2.2.1 u.2.2.2.2.1 u.2.2.2.2.2.1 u.2.2.2.2.2.2) (fun r u => (xLine n line wh = 0 → r = linV T n mo line.toNatClampNeg wh.toNatClampNeg ∧ u.1 = snp T n mo ∧ u.2.1 = Hs ∧ u.2.2.1 = Xt) ∧ (¬ xLine n line wh = 0 → u.1 = snp T n mo ∧ u.2.1 = Hs ∧ u.2.2.1 = Xt)) := by
  refine mi_of (by decide +kernel) (Nat.le_of_ble_eq_true rfl) ?_
  intro p e s m args below meth c A Q F hr hlk hQ
  refine v_st (w' := wM ad G (snp T n mo) Hs Xt Tw Qs (ke, sp) Lo Wi) (pc' := 0) (st' := []) rfl rfl rfl [0, 1, 2] (lv' := [(0, .ref (ad 0)), (1, .int line), (2, .int wh)]) rfl ?_
  refine v_aload_n F dX8_line_0 0 rfl rfl ?_
  refine v_iconst (v := nI 0) F dX8_line_1 (by decide) ?_
  refine v_put F inlX8 (ci := 8) rfl tyX8 tyX8_ok nmX8 5 (by decide) rfl rfl wF_RX8_35 dX8_line_2 (ty := .int) (by decide +kernel) rfl rfl 0 rfl (Nat.le_of_ble_eq_true rfl) (wM ad G (snp T n mo) Hs Xt (0) Qs (ke, sp) Lo Wi) rfl ?_
  refine v_aload_n F dX8_line_5 0 rfl rfl ?_
  refine v_iload_n F dX8_line_6 1 rfl rfl ?_
  refine v_cVIF F cs_RX8_78 dX8_line_7 0 (ci := 8) rfl rfl (m_X8_isLine lau G ad T n mo Hs Xt (0) Qs (ke, sp) Lo Wi line (by omega)) (by decide) rfl rfl (Nat.le_of_ble_eq_true rfl) ⟨Nat.zero_le _, Nat.zero_le _⟩ (fun r1 u2 w3 => ?_)
  subst w3
  refine v_if_ne F 19 dX8_line_10 (by decide) (fun c4 => ?_) (fun c4 => ?_)
  · replace c4 := bI_t c4
    have hhas := c4
    refine v_iload_n F dX8_line_19 2 rfl rfl ?_
    refine v_iconst (v := nI 0) F dX8_line_20 (by decide) ?_
    refine v_bipush (v := nI 8) F dX8_line_21 (by decide) ?_
    refine v_cSIE F cs_RX8_39 dX8_line_23 (m_X8_in lau G wh (nI 0) (nI 8) ) (by decide) rfl rfl (Nat.le_of_ble_eq_true rfl) ⟨Nat.zero_le _, Nat.zero_le _⟩ (fun r5 u6 w7 => ?_)
    subst w7
    refine v_if_eq F 38 dX8_line_26 (by decide) (fun c8 => ?_) (fun c8 => ?_)
    · replace c8 := bI_f c8
      have hxb := xLine_b hhas c8
      refine v_aload_n F dX8_line_38 0 rfl rfl ?_
      refine v_iconst (v := nI 2) F dX8_line_39 (by decide) ?_
      refine v_cVIF F cs_RX8_46 dX8_line_40 0 (ci := 8) rfl rfl (m_X8_fails lau G ad (snp T n mo) Hs Xt (0) Qs (ke, sp) Lo Wi 2 ) (by decide) rfl rfl (Nat.le_of_ble_eq_true rfl) ⟨Nat.zero_le _, Nat.zero_le _⟩ (fun r9 u10 w11 => ?_)
      subst w11
      refine v_w (w' := wM ad G (snp T n mo) Hs Xt (xLine n line wh) Qs (ke, sp) Lo Wi) (congrArg (fun z_ => wM ad G (snp T n mo) Hs Xt z_ Qs (ke, sp) Lo Wi) (show 2 = (xLine n line wh) by simp [if_true, *])) ?_
      exact v_iret F hr hlk hQ dX8_line_43 (((snp T n mo), Hs, Xt, Qs, (ke, sp), Lo, Wi)) rfl (by first | (refine ⟨fun q => absurd q ?_, fun _ => ⟨rfl, rfl, rfl⟩⟩; simp [if_true, *]; done) | (refine ⟨fun _ => ⟨?_, ?_, ?_, ?_⟩, fun q => absurd ?_ q⟩; (rw [hc_li, hc_wj]); (rfl); (rfl); (rfl); simp [if_true, *]; done))
    · replace c8 := bI_t c8
      have hxc := xLine_c hhas c8
      obtain ⟨li, hb0, rfl⟩ := hasB_of (by omega) hhas
      obtain ⟨wj, -, hw, rfl⟩ := inB_nat (by decide) (by decide) c8
      have hc_li : (nI li).toNatClampNeg = li := nI_clamp (by omega)
      have hc_wj : (nI wj).toNatClampNeg = wj := nI_clamp (by omega)
      refine v_aload_n F dX8_line_29 0 rfl rfl ?_
      refine v_iload_n F dX8_line_30 1 rfl rfl ?_
      refine v_iload_n F dX8_line_31 2 rfl rfl ?_
      refine v_cVIF F cs_RX8_174 dX8_line_32 0 (ci := 8) rfl rfl (m_X8_ofLine lau G ad T n mo Hs Xt (0) Qs ke sp Lo Wi li wj (by omega) (by omega) (by omega) hT) (by decide) rfl rfl (Nat.le_of_ble_eq_true rfl) ⟨Nat.zero_le _, Nat.zero_le _⟩ (fun r12 u13 w14 => ?_)
      refine v_topi (linV T n mo li wj) w14 ?_
      refine v_goto F 43 dX8_line_35 (by decide) ?_
      refine v_w (w' := wM ad G (snp T n mo) Hs Xt (xLine n (nI li) (nI wj)) Qs u13.1 u13.2 Wi) (congrArg (fun z_ => wM ad G (snp T n mo) Hs Xt z_ Qs u13.1 u13.2 Wi) (show (0) = (xLine n (nI li) (nI wj)) by simp [if_true, *])) ?_
      exact v_iret F hr hlk hQ dX8_line_43 (((snp T n mo), Hs, Xt, Qs, u13.1, u13.2, Wi)) rfl (by first | (refine ⟨fun q => absurd q ?_, fun _ => ⟨rfl, rfl, rfl⟩⟩; simp [if_true, *]; done) | (refine ⟨fun _ => ⟨?_, ?_, ?_, ?_⟩, fun q => absurd ?_ q⟩; (rw [hc_li, hc_wj]); (rfl); (rfl); (rfl); simp [if_true, *]; done))
  · replace c4 := bI_f c4
    have hxa : xLine n line wh = 1 := if_pos c4
    refine v_aload_n F dX8_line_13 0 rfl rfl ?_
    refine v_iconst (v := nI 1) F dX8_line_14 (by decide) ?_
    refine v_cVIF F cs_RX8_46 dX8_line_15 0 (ci := 8) rfl rfl (m_X8_fails lau G ad (snp T n mo) Hs Xt (0) Qs (ke, sp) Lo Wi 1 ) (by decide) rfl rfl (Nat.le_of_ble_eq_true rfl) ⟨Nat.zero_le _, Nat.zero_le _⟩ (fun r15 u16 w17 => ?_)
    subst w17
    refine v_w (w' := wM ad G (snp T n mo) Hs Xt (xLine n line wh) Qs (ke, sp) Lo Wi) (congrArg (fun z_ => wM ad G (snp T n mo) Hs Xt z_ Qs (ke, sp) Lo Wi) (show 1 = (xLine n line wh) by simp [if_true, *])) ?_
    exact v_iret F hr hlk hQ dX8_line_18 (((snp T n mo), Hs, Xt, Qs, (ke, sp), Lo, Wi)) rfl (by first | (refine ⟨fun q => absurd q ?_, fun _ => ⟨rfl, rfl, rfl⟩⟩; simp [if_true, *]; done) | (refine ⟨fun _ => ⟨?_, ?_, ?_, ?_⟩, fun q => absurd ?_ q⟩; (rw [hc_li, hc_wj]); (rfl); (rfl); (rfl); simp [if_true, *]; done))
theorem cs_RX8_95 : CSV RX8 95 RX8 yX8_losers cX8_losers 4 (some .int) 0 := ⟨wC_yX8_losers, wM_RX8_95, wIm_yX8_losers, wSe_yX8_losers, wI_RX8, by decide +kernel, by decide⟩
set_option maxHeartbeats 400000 in
set_option maxRecDepth 100000 in
theorem m_X8_prune (lau : Launch) (G : GT) (ad : Nat → Nat) (T : Nat → Int32) (n mo : Nat) (S : Nat → Int32) (h : Nat) (Xt : XT) (Tw : Nat) (Qs : QT) (Ks : KS) (Lo Wi : Nat → Int32) (hn : n ≤ 20) (hh : h ≤ 6) (hT : TOK T n) : MI lau G 7 yX8_prune cX8_prune 3 (some .int) [.ref (ad 0)] (wM ad G (snp T n mo) (S, h) Xt Tw Qs Ks Lo Wi) (fun u : MS => wM ad G u.1 u.2.1 u.2.2.1 (0) u.2.2.2.1 u.2.2.2.2.1 u.2.2.2.2.2.1 u.2.2.2.2.2.2) (fun r u => (0 = 0 → r = nI (los T n n) ∧ u.1 = snp (prS (nvr T n n) T n n).1 (prS (nvr T n n) T n n).2.1 mo ∧ u.2.1 = (pSave S h T n mo, pSaveH h) ∧ u.2.2.1 = Xt) ∧ (¬ 0 = 0 → u.1 = snp T n mo ∧ u.2.1 = (S, h) ∧ u.2.2.1 = Xt)) := by
  have hlo := los_le T n n
  refine mi_of (by decide +kernel) (Nat.le_of_ble_eq_true rfl) ?_
  intro p e s m args below meth c A Q F hr hlk hQ
  refine v_st (w' := wM ad G (snp T n mo) (S, h) Xt Tw Qs Ks Lo Wi) (pc' := 0) (st' := []) rfl rfl rfl [0] (lv' := [(0, .ref (ad 0))]) rfl ?_
  refine v_aload_n F dX8_prune_0 0 rfl rfl ?_
  refine v_iconst (v := nI 0) F dX8_prune_1 (by decide) ?_
  refine v_put F inlX8 (ci := 8) rfl tyX8 tyX8_ok nmX8 5 (by decide) rfl rfl wF_RX8_35 dX8_prune_2 (ty := .int) (by decide +kernel) rfl rfl 0 rfl (Nat.le_of_ble_eq_true rfl) (wM ad G (snp T n mo) (S, h) Xt (0) Qs Ks Lo Wi) rfl ?_
  refine v_aload_n F dX8_prune_5 0 rfl rfl ?_
  refine v_cVVF F cs_RX8_71 dX8_prune_6 0 (ci := 8) rfl rfl (m_X8_saves lau G ad T n mo S h Xt (0) Qs Ks Lo Wi (by omega)) (by decide) rfl rfl (Nat.le_of_ble_eq_true rfl) ⟨Nat.zero_le _, Nat.zero_le _⟩ (fun u2 w3 => ?_)
  refine v_aload_n F dX8_prune_9 0 rfl rfl ?_
  refine v_cVIF F cs_RX8_95 dX8_prune_10 0 (ci := 8) rfl rfl (m_X8_losers lau G ad T n mo (pSave S h T n mo, pSaveH h) Xt (0) Qs Ks Lo Wi (by omega) hT) (by decide) rfl rfl (Nat.le_of_ble_eq_true rfl) ⟨Nat.zero_le _, Nat.zero_le _⟩ (fun r4 u5 w6 => ?_)
  have w6b := w6.2
  refine v_topi (nI (los T n n)) w6.1 ?_
  refine v_istore_n (lv' := [(1, .int (nI (los T n n))), (0, .ref (ad 0))]) F dX8_prune_13 1 rfl (by decide) rfl ?_
  refine v_aload_n F dX8_prune_14 0 rfl rfl ?_
  refine v_get (v := .ref (ad 1)) F inlX8 (ci := 8) rfl 0 (by decide) rfl wF_RX8_7 dX8_prune_15 0 rfl rfl ?_
  refine v_iconst (v := nI 1) F dX8_prune_18 (by decide) ?_
  refine v_ialdN F dX8_prune_19 1 rfl 1 rfl (by omega) (by decide) ((snp T n mo) 1) rfl ?_
  refine v_topi (nI n) rfl ?_
  refine v_iconst (v := nI 1) F dX8_prune_20 (by decide) ?_
  refine v_isub F dX8_prune_21 ?_
  refine v_istore_n (lv' := [(2, .int (nI n - nI 1)), (1, .int (nI (los T n n))), (0, .ref (ad 0))]) F dX8_prune_22 2 rfl (by decide) rfl ?_
  have L23 : ∀ (k_ : Nat) (k : Nat) (iv : Int32), k < k_ → (k ≤ n) → (iv = nI k - nI 1) → V p lau e (RM 7) s m args below meth c 3 G A Q (wM ad G (snp (prS (nvr T n n) T n (n - k)).1 (prS (nvr T n n) T n (n - k)).2.1 mo) (pSave S h T n mo, pSaveH h) Xt (0) Qs Ks Lo u5) 0 0 23 [(2, .int iv), (1, .int (nI (los T n n))), (0, .ref (ad 0))] [] := by
    intro k_
    induction k_ with
    | zero => exact fun k iv hk_ hk hiv => absurd hk_ (Nat.not_lt_zero _)
    | succ k_ ih23 =>
      intro k iv hk_23 hk hiv
      refine v_iload_n F dX8_prune_23 2 rfl rfl ?_
      refine v_if_lt F 47 dX8_prune_24 (by decide) (fun c7 => ?_) (fun c7 => ?_)
      · have hk0 := pm_lt (by omega) hiv c7
        subst hk0
        refine v_iload_n F dX8_prune_47 1 rfl rfl ?_
        exact v_iret F hr hlk hQ dX8_prune_48 (((snp (prS (nvr T n n) T n (n - 0)).1 (prS (nvr T n n) T n (n - 0)).2.1 mo), (pSave S h T n mo, pSaveH h), Xt, Qs, Ks, Lo, u5)) rfl (by first | (refine ⟨fun q => absurd q ?_, fun _ => ⟨rfl, rfl, rfl⟩⟩; simp; done) | (refine ⟨fun _ => ⟨?_, ?_, ?_, ?_⟩, fun q => absurd ?_ q⟩; (rfl); (rfl); (rfl); (rfl); simp; done))
      · obtain ⟨j, rfl, rfl⟩ := pm_ge hiv c7
        have hpr := prS_n (nvr T n n) T n (n - (j + 1)) (by omega)
        refine v_aload_n F dX8_prune_27 0 rfl rfl ?_
        refine v_get (v := .ref (ad 8)) F inlX8 (ci := 8) rfl 14 (by decide) rfl wF_RX8_31 dX8_prune_28 0 rfl rfl ?_
        refine v_iload_n F dX8_prune_31 2 rfl rfl ?_
        refine v_zaldN F dX8_prune_32 8 rfl j rfl (by omega) (by decide) (u5 j) rfl ?_
        refine v_topi ((if fmo T n j = -1 then nI 0 else nI 1)) (w6b _ (by omega)) ?_
        refine v_if_ne F 41 dX8_prune_33 (by decide) (fun h33 => ?_) (fun h33 => ?_)
        · refine v_iinc (lv' := [(2, .int (nI j + (-1))), (1, .int (nI (los T n n))), (0, .ref (ad 0))]) F ((nI j + (-1))) dX8_prune_41 rfl rfl (by decide) rfl ?_
          refine v_goto F 23 dX8_prune_44 (by decide) ?_
          refine v_w (w' := wM ad G (snp (prS (nvr T n n) T n (n - j)).1 (prS (nvr T n n) T n (n - j)).2.1 mo) (pSave S h T n mo, pSaveH h) Xt (0) Qs Ks Lo u5) (congrArg (fun z_ => wM ad G z_ (pSave S h T n mo, pSaveH h) Xt (0) Qs Ks Lo u5) (show (snp (prS (nvr T n n) T n (n - (j + 1))).1 (prS (nvr T n n) T n (n - (j + 1))).2.1 mo) = (snp (prS (nvr T n n) T n (n - j)).1 (prS (nvr T n n) T n (n - j)).2.1 mo) by first | rfl | (rw [Nat.sub_self]; rfl) | exact prM_y hn (by omega) (w_0 h33) | exact prM_x hn (by omega) (w_1 h33))) ?_
          refine v_st (w' := wM ad G (snp (prS (nvr T n n) T n (n - j)).1 (prS (nvr T n n) T n (n - j)).2.1 mo) (pSave S h T n mo, pSaveH h) Xt (0) Qs Ks Lo u5) (pc' := 23) (st' := []) rfl rfl rfl [0, 1, 2] (lv' := [(2, .int (nI j + (-1))), (1, .int (nI (los T n n))), (0, .ref (ad 0))]) rfl ?_
          exact ih23 j (nI j + (-1)) (by omega) (by omega) (pm_st)
        · refine v_aload_n F dX8_prune_36 0 rfl rfl ?_
          refine v_iload_n F dX8_prune_37 2 rfl rfl ?_
          refine v_cVVF F cs_RX8_91 dX8_prune_38 0 (ci := 8) rfl rfl (m_X8_goes lau G ad ((prS (nvr T n n) T n (n - (j + 1))).1) ((prS (nvr T n n) T n (n - (j + 1))).2.1) mo (pSave S h T n mo, pSaveH h) Xt (0) Qs Ks Lo u5 j (by omega) (by omega)) (by decide) rfl rfl (Nat.le_of_ble_eq_true rfl) ⟨Nat.zero_le _, Nat.zero_le _⟩ (fun u9 w10 => ?_)
          refine v_iinc (lv' := [(2, .int (nI j + (-1))), (1, .int (nI (los T n n))), (0, .ref (ad 0))]) F ((nI j + (-1))) dX8_prune_41 rfl rfl (by decide) rfl ?_
          refine v_goto F 23 dX8_prune_44 (by decide) ?_
          refine v_w (w' := wM ad G (snp (prS (nvr T n n) T n (n - j)).1 (prS (nvr T n n) T n (n - j)).2.1 mo) (pSave S h T n mo, pSaveH h) Xt (0) Qs Ks Lo u5) (congrArg (fun z_ => wM ad G z_ (pSave S h T n mo, pSaveH h) Xt (0) Qs Ks Lo u5) (show (snp (pDrop ((prS (nvr T n n) T n (n - (j + 1))).1) ((prS (nvr T n n) T n (n - (j + 1))).2.1) j) (((prS (nvr T n n) T n (n - (j + 1))).2.1) - 1) mo) = (snp (prS (nvr T n n) T n (n - j)).1 (prS (nvr T n n) T n (n - j)).2.1 mo) by first | rfl | (rw [Nat.sub_self]; rfl) | exact prM_y hn (by omega) (w_0 h33) | exact prM_x hn (by omega) (w_1 h33))) ?_
          refine v_st (w' := wM ad G (snp (prS (nvr T n n) T n (n - j)).1 (prS (nvr T n n) T n (n - j)).2.1 mo) (pSave S h T n mo, pSaveH h) Xt (0) Qs Ks Lo u5) (pc' := 23) (st' := []) rfl rfl rfl [0, 1, 2] (lv' := [(2, .int (nI j + (-1))), (1, .int (nI (los T n n))), (0, .ref (ad 0))]) rfl ?_
          exact ih23 j (nI j + (-1)) (by omega) (by omega) (pm_st)
  refine v_w (w' := wM ad G (snp (prS (nvr T n n) T n (n - n)).1 (prS (nvr T n n) T n (n - n)).2.1 mo) (pSave S h T n mo, pSaveH h) Xt (0) Qs Ks Lo u5) (congrArg (fun z_ => wM ad G z_ (pSave S h T n mo, pSaveH h) Xt (0) Qs Ks Lo u5) (show (snp T n mo) = (snp (prS (nvr T n n) T n (n - n)).1 (prS (nvr T n n) T n (n - n)).2.1 mo) by first | rfl | (rw [Nat.sub_self]; rfl) | exact prM_y hn (by omega) (w_0 h33) | exact prM_x hn (by omega) (w_1 h33))) ?_
  refine v_st (w' := wM ad G (snp (prS (nvr T n n) T n (n - n)).1 (prS (nvr T n n) T n (n - n)).2.1 mo) (pSave S h T n mo, pSaveH h) Xt (0) Qs Ks Lo u5) (pc' := 23) (st' := []) rfl rfl rfl [0, 1, 2] (lv' := [(2, .int (nI n - nI 1)), (1, .int (nI (los T n n))), (0, .ref (ad 0))]) rfl ?_
  exact L23 _ n (nI n - nI 1) (Nat.lt_succ_self _) (by omega) (rfl)
theorem cs_RX8_189 : CSV RX8 189 RX8 yX8_living cX8_living 3 (some .int) 0 := ⟨wC_yX8_living, wM_RX8_189, wIm_yX8_living, wSe_yX8_living, wI_RX8, by decide +kernel, by decide⟩
theorem cs_RX8_195 : CSV RX8 195 RX8 yX8_inTree cX8_inTree 4 (some .int) 1 := ⟨wC_yX8_inTree, wM_RX8_195, wIm_yX8_inTree, wSe_yX8_inTree, wI_RX8, by decide +kernel, by decide⟩
set_option maxHeartbeats 400000 in
set_option maxRecDepth 100000 in
theorem m_X8_counted (lau : Launch) (G : GT) (ad : Nat → Nat) (T : Nat → Int32) (n mo : Nat) (S : Nat → Int32) (h : Nat) (Xt : XT) (Tw : Nat) (Qs : QT) (ke sp : Nat → Int32) (Lo Wi : Nat → Int32) (wj : Nat) (hw : wj ≤ 8) (hn : n ≤ 20) (hT : TOK T n) : MI lau G 7 yX8_counted cX8_counted 2 (some .int) [.ref (ad 0), .int (nI wj)] (wM ad G (snp T n mo) (S, h) Xt Tw Qs (ke, sp) Lo Wi) (fun u : KS × (Nat → Int32) × (Nat → Int32) => wM ad G (snp T n mo) (S, h) Xt Tw Qs u.1 u.2.1 u.2.2) (fun r u => r = cntV T n mo h wj) := by
  have hpop := pop_eq T hn
  have hlo := los_le T n n
  refine mi_of (by decide +kernel) (Nat.le_of_ble_eq_true rfl) ?_
  intro p e s m args below meth c A Q F hr hlk hQ
  refine v_st (w' := wM ad G (snp T n mo) (S, h) Xt Tw Qs (ke, sp) Lo Wi) (pc' := 0) (st' := []) rfl rfl rfl [0, 1] (lv' := [(0, .ref (ad 0)), (1, .int (nI wj))]) rfl ?_
  refine v_iload_n F dX8_counted_0 1 rfl rfl ?_
  refine v_iconst (v := nI 2) F dX8_counted_1 (by decide) ?_
  refine v_icmp_ge F 12 dX8_counted_2 (by decide) (fun c1 => ?_) (fun c1 => ?_)
  · replace c1 := nG (a := wj) (b := 2) (by omega) (by decide) c1
    refine v_iload_n F dX8_counted_12 1 rfl rfl ?_
    refine v_iconst (v := nI 5) F dX8_counted_13 (by decide) ?_
    refine v_icmp_ge F 48 dX8_counted_14 (by decide) (fun c2 => ?_) (fun c2 => ?_)
    · replace c2 := nG (a := wj) (b := 5) (by omega) (by decide) c2
      refine v_iload_n F dX8_counted_48 1 rfl rfl ?_
      refine v_bipush (v := nI 7) F dX8_counted_49 (by decide) ?_
      refine v_icmp_ge F 71 dX8_counted_51 (by decide) (fun c3 => ?_) (fun c3 => ?_)
      · replace c3 := nG (a := wj) (b := 7) (by omega) (by decide) c3
        refine v_iload_n F dX8_counted_71 1 rfl rfl ?_
        refine v_bipush (v := nI 7) F dX8_counted_72 (by decide) ?_
        refine v_icmp_ne F 84 dX8_counted_74 (by decide) (fun c4 => ?_) (fun c4 => ?_)
        · replace c4 := nEn (a := wj) (b := 7) (by omega) (by decide) c4
          have hcn := cn_8 (T := T) (n := n) (mo := mo) (h := h) (w := wj) (by omega)
          refine v_aload_n F dX8_counted_84 0 rfl rfl ?_
          refine v_get (v := .int (nI h)) F inlX8 (ci := 8) rfl 2 (by decide) rfl wF_RX8_43 dX8_counted_85 0 rfl rfl ?_
          exact v_iret F hr hlk hQ dX8_counted_88 (((ke, sp), Lo, Wi)) rfl (by exact hcn)
        · replace c4 := nE (a := wj) (b := 7) (by omega) (by decide) c4
          have hcn := cn_7 (T := T) (n := n) (mo := mo) (h := h) c4 hpop
          refine v_aload_n F dX8_counted_77 0 rfl rfl ?_
          refine v_cVIF F cs_RX8_95 dX8_counted_78 0 (ci := 8) rfl rfl (m_X8_losers lau G ad T n mo (S, h) Xt Tw Qs (ke, sp) Lo Wi (by omega) hT) (by decide) rfl rfl (Nat.le_of_ble_eq_true rfl) ⟨Nat.zero_le _, Nat.zero_le _⟩ (fun r5 u6 w7 => ?_)
          have w7b := w7.2
          refine v_topi (nI (los T n n)) w7.1 ?_
          refine v_goto F 88 dX8_counted_81 (by decide) ?_
          exact v_iret F hr hlk hQ dX8_counted_88 (((ke, sp), Lo, u6)) rfl (by exact hcn)
      · replace c3 := nGn (a := wj) (b := 7) (by omega) (by decide) c3
        refine v_aload_n F dX8_counted_54 0 rfl rfl ?_
        refine v_iload_n F dX8_counted_55 1 rfl rfl ?_
        refine v_iconst (v := nI 5) F dX8_counted_56 (by decide) ?_
        refine v_icmp_ne F 64 dX8_counted_57 (by decide) (fun c8 => ?_) (fun c8 => ?_)
        · replace c8 := nEn (a := wj) (b := 5) (by omega) (by decide) c8
          have hcn := cn_6 (T := T) (n := n) (mo := mo) (h := h) (w := wj) (by omega)
          refine v_iconst (v := nI 0) F dX8_counted_64 (by decide) ?_
          refine v_cVIF F cs_RX8_195 dX8_counted_65 0 (ci := 8) rfl rfl (m_X8_inTree lau G ad T n mo (S, h) Xt Tw Qs ke sp Lo Wi false (by omega) hT) (by decide) rfl rfl (Nat.le_of_ble_eq_true rfl) ⟨Nat.zero_le _, Nat.zero_le _⟩ (fun r9 u10 w11 => ?_)
          refine v_topi (inV T n mo false) w11 ?_
          refine v_goto F 88 dX8_counted_68 (by decide) ?_
          exact v_iret F hr hlk hQ dX8_counted_88 ((u10, Lo, Wi)) rfl (by exact hcn)
        · replace c8 := nE (a := wj) (b := 5) (by omega) (by decide) c8
          have hcn := cn_5 (T := T) (n := n) (mo := mo) (h := h) c8
          refine v_iconst (v := nI 1) F dX8_counted_60 (by decide) ?_
          refine v_goto F 65 dX8_counted_61 (by decide) ?_
          refine v_cVIF F cs_RX8_195 dX8_counted_65 0 (ci := 8) rfl rfl (m_X8_inTree lau G ad T n mo (S, h) Xt Tw Qs ke sp Lo Wi true (by omega) hT) (by decide) rfl rfl (Nat.le_of_ble_eq_true rfl) ⟨Nat.zero_le _, Nat.zero_le _⟩ (fun r12 u13 w14 => ?_)
          refine v_topi (inV T n mo true) w14 ?_
          refine v_goto F 88 dX8_counted_68 (by decide) ?_
          exact v_iret F hr hlk hQ dX8_counted_88 ((u13, Lo, Wi)) rfl (by exact hcn)
    · replace c2 := nGn (a := wj) (b := 5) (by omega) (by decide) c2
      refine v_iload_n F dX8_counted_17 1 rfl rfl ?_
      refine v_iconst (v := nI 2) F dX8_counted_18 (by decide) ?_
      refine v_icmp_ne F 29 dX8_counted_19 (by decide) (fun c15 => ?_) (fun c15 => ?_)
      · replace c15 := nEn (a := wj) (b := 2) (by omega) (by decide) c15
        refine v_iload_n F dX8_counted_29 1 rfl rfl ?_
        refine v_iconst (v := nI 3) F dX8_counted_30 (by decide) ?_
        refine v_icmp_ne F 43 dX8_counted_31 (by decide) (fun c16 => ?_) (fun c16 => ?_)
        · replace c16 := nEn (a := wj) (b := 3) (by omega) (by decide) c16
          have hcn := cn_4 (T := T) (n := n) (mo := mo) (h := h) (w := wj) (by omega) (by omega)
          refine v_aload_n F dX8_counted_43 0 rfl rfl ?_
          refine v_cVIF F cs_RX8_192 dX8_counted_44 0 (ci := 8) rfl rfl (m_X8_bare lau G ad T n mo (S, h) Xt Tw Qs (ke, sp) Lo Wi (by omega)) (by decide) rfl rfl (Nat.le_of_ble_eq_true rfl) ⟨Nat.zero_le _, Nat.zero_le _⟩ (fun r17 u18 w19 => ?_)
          refine v_topi (nI (plc T n mo (-1) 64)) w19 ?_
          exact v_iret F hr hlk hQ dX8_counted_47 (((ke, sp), u18, Wi)) rfl (by exact hcn)
        · replace c16 := nE (a := wj) (b := 3) (by omega) (by decide) c16
          have hcn := cn_3 (T := T) (n := n) (mo := mo) (h := h) c16
          refine v_aload_n F dX8_counted_34 0 rfl rfl ?_
          refine v_iconst (v := nI 0) F dX8_counted_35 (by decide) ?_
          refine v_iconst (v := nI 3) F dX8_counted_36 (by decide) ?_
          refine v_cVIF F cs_RX8_183 dX8_counted_37 0 (ci := 8) rfl rfl (m_X8_ofRow lau G ad T n mo (S, h) Xt Tw Qs (ke, sp) Lo Wi 0 3 (by omega) (by omega) (by omega)) (by decide) rfl rfl (Nat.le_of_ble_eq_true rfl) ⟨Nat.zero_le _, Nat.zero_le _⟩ (fun r20 u21 w22 => ?_)
          refine v_topi (ofR T n mo 0 3) w22 ?_
          refine v_goto F 47 dX8_counted_40 (by decide) ?_
          exact v_iret F hr hlk hQ dX8_counted_47 (((ke, sp), u21, Wi)) rfl (by exact hcn)
      · replace c15 := nE (a := wj) (b := 2) (by omega) (by decide) c15
        have hcn := cn_2 (T := T) (n := n) (mo := mo) (h := h) c15
        refine v_aload_n F dX8_counted_22 0 rfl rfl ?_
        refine v_cVIF F cs_RX8_189 dX8_counted_23 0 (ci := 8) rfl rfl (m_X8_living lau G ad T n mo (S, h) Xt Tw Qs (ke, sp) Lo Wi (by omega)) (by decide) rfl rfl (Nat.le_of_ble_eq_true rfl) ⟨Nat.zero_le _, Nat.zero_le _⟩ (fun r23 u24 w25 => ?_)
        subst w25
        refine v_goto F 47 dX8_counted_26 (by decide) ?_
        exact v_iret F hr hlk hQ dX8_counted_47 (((ke, sp), Lo, Wi)) rfl (by exact hcn)
  · replace c1 := nGn (a := wj) (b := 2) (by omega) (by decide) c1
    refine v_aload_n F dX8_counted_5 0 rfl rfl ?_
    refine v_get (v := .ref (ad 1)) F inlX8 (ci := 8) rfl 0 (by decide) rfl wF_RX8_7 dX8_counted_6 0 rfl rfl ?_
    refine v_iload_n F dX8_counted_9 1 rfl rfl ?_
    refine v_ialdN F dX8_counted_10 1 rfl wj rfl (by omega) (by decide) ((snp T n mo) wj) rfl ?_
    refine v_topi ((cntV T n mo h wj)) (cn_01 (by omega)) ?_
    exact v_iret F hr hlk hQ dX8_counted_11 (((ke, sp), Lo, Wi)) rfl (by rfl)
theorem cs_RX8_199 : CSV RX8 199 RX8 yX8_counted cX8_counted 2 (some .int) 1 := ⟨wC_yX8_counted, wM_RX8_199, wIm_yX8_counted, wSe_yX8_counted, wI_RX8, by decide +kernel, by decide⟩
set_option maxHeartbeats 400000 in
set_option maxRecDepth 100000 in
theorem m_X8_count (lau : Launch) (G : GT) (ad : Nat → Nat) (T : Nat → Int32) (n mo : Nat) (S : Nat → Int32) (h : Nat) (Xt : XT) (Tw : Nat) (Qs : QT) (ke sp : Nat → Int32) (Lo Wi : Nat → Int32) (wh : Int32) (hn : n ≤ 20) (hT : TOK T n) : MI lau G 9 yX8_count cX8_count 2 (some .int) [.ref (ad 0), .int wh] (wM ad G (snp T n mo) (S, h) Xt Tw Qs (ke, sp) Lo Wi) (fun u : MS => wM ad G u.1 u.2.1 u.2.2.1 (xCnt wh) u.2.2.2.1 u.2.2.2.2.1 u.2.2.2.2.2.1 u.2.2.2.2.2.2) (fun r u => (xCnt wh = 0 → r = cntV T n mo h wh.toNatClampNeg ∧ u.1 = snp T n mo ∧ u.2.1 = (S, h) ∧ u.2.2.1 = Xt) ∧ (¬ xCnt wh = 0 → u.1 = snp T n mo ∧ u.2.1 = (S, h) ∧ u.2.2.1 = Xt)) := by
  refine mi_of (by decide +kernel) (Nat.le_of_ble_eq_true rfl) ?_
  intro p e s m args below meth c A Q F hr hlk hQ
  refine v_st (w' := wM ad G (snp T n mo) (S, h) Xt Tw Qs (ke, sp) Lo Wi) (pc' := 0) (st' := []) rfl rfl rfl [0, 1] (lv' := [(0, .ref (ad 0)), (1, .int wh)]) rfl ?_
  refine v_aload_n F dX8_count_0 0 rfl rfl ?_
  refine v_iconst (v := nI 0) F dX8_count_1 (by decide) ?_
  refine v_put F inlX8 (ci := 8) rfl tyX8 tyX8_ok nmX8 5 (by decide) rfl rfl wF_RX8_35 dX8_count_2 (ty := .int) (by decide +kernel) rfl rfl 0 rfl (Nat.le_of_ble_eq_true rfl) (wM ad G (snp T n mo) (S, h) Xt (0) Qs (ke, sp) Lo Wi) rfl ?_
  refine v_iload_n F dX8_count_5 1 rfl rfl ?_
  refine v_iconst (v := nI 0) F dX8_count_6 (by decide) ?_
  refine v_bipush (v := nI 8) F dX8_count_7 (by decide) ?_
  refine v_cSIE F cs_RX8_39 dX8_count_9 (m_X8_in lau G wh (nI 0) (nI 8) ) (by decide) rfl rfl (Nat.le_of_ble_eq_true rfl) ⟨Nat.zero_le _, Nat.zero_le _⟩ (fun r1 u2 w3 => ?_)
  subst w3
  refine v_if_eq F 23 dX8_count_12 (by decide) (fun c4 => ?_) (fun c4 => ?_)
  · replace c4 := bI_f c4
    have hxb := xCnt_b c4
    refine v_aload_n F dX8_count_23 0 rfl rfl ?_
    refine v_iconst (v := nI 1) F dX8_count_24 (by decide) ?_
    refine v_cVIF F cs_RX8_46 dX8_count_25 0 (ci := 8) rfl rfl (m_X8_fails lau G ad (snp T n mo) (S, h) Xt (0) Qs (ke, sp) Lo Wi 1 ) (by decide) rfl rfl (Nat.le_of_ble_eq_true rfl) ⟨Nat.zero_le _, Nat.zero_le _⟩ (fun r5 u6 w7 => ?_)
    subst w7
    refine v_w (w' := wM ad G (snp T n mo) (S, h) Xt (xCnt wh) Qs (ke, sp) Lo Wi) (congrArg (fun z_ => wM ad G (snp T n mo) (S, h) Xt z_ Qs (ke, sp) Lo Wi) (show 1 = (xCnt wh) by simp [if_true, *])) ?_
    exact v_iret F hr hlk hQ dX8_count_28 (((snp T n mo), (S, h), Xt, Qs, (ke, sp), Lo, Wi)) rfl (by first | (refine ⟨fun q => absurd q ?_, fun _ => ⟨rfl, rfl, rfl⟩⟩; simp [if_true, *]; done) | (refine ⟨fun _ => ⟨?_, ?_, ?_, ?_⟩, fun q => absurd ?_ q⟩; (rw [hc_wj]); (rfl); (rfl); (rfl); simp [if_true, *]; done))
  · replace c4 := bI_t c4
    have hxc := xCnt_c c4
    obtain ⟨wj, -, hw, rfl⟩ := inB_nat (by decide) (by decide) c4
    have hc_wj : (nI wj).toNatClampNeg = wj := nI_clamp (by omega)
    refine v_aload_n F dX8_count_15 0 rfl rfl ?_
    refine v_iload_n F dX8_count_16 1 rfl rfl ?_
    refine v_cVIF F cs_RX8_199 dX8_count_17 0 (ci := 8) rfl rfl (m_X8_counted lau G ad T n mo S h Xt (0) Qs ke sp Lo Wi wj (by omega) (by omega) hT) (by decide) rfl rfl (Nat.le_of_ble_eq_true rfl) ⟨Nat.zero_le _, Nat.zero_le _⟩ (fun r8 u9 w10 => ?_)
    refine v_topi (cntV T n mo h wj) w10 ?_
    refine v_goto F 28 dX8_count_20 (by decide) ?_
    refine v_w (w' := wM ad G (snp T n mo) (S, h) Xt (xCnt (nI wj)) Qs u9.1 u9.2.1 u9.2.2) (congrArg (fun z_ => wM ad G (snp T n mo) (S, h) Xt z_ Qs u9.1 u9.2.1 u9.2.2) (show (0) = (xCnt (nI wj)) by simp [if_true, *])) ?_
    exact v_iret F hr hlk hQ dX8_count_28 (((snp T n mo), (S, h), Xt, Qs, u9.1, u9.2.1, u9.2.2)) rfl (by first | (refine ⟨fun q => absurd q ?_, fun _ => ⟨rfl, rfl, rfl⟩⟩; simp [if_true, *]; done) | (refine ⟨fun _ => ⟨?_, ?_, ?_, ?_⟩, fun q => absurd ?_ q⟩; (rw [hc_wj]); (rfl); (rfl); (rfl); simp [if_true, *]; done))
