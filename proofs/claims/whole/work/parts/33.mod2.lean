set_option maxHeartbeats 400000 in
set_option maxRecDepth 100000 in
theorem m_X8_counts (lau : Launch) (G : GT) (ad : Nat → Nat) (T : Nat → Int32) (n mo : Nat) (Hs : HT) (Xt : XT) (Tw : Nat) (Qs : QT) (Ks : KS) (Lo Wi : Nat → Int32) (l x t : Nat) (hl : l < 20) : MI lau G 1 yX8_counts cX8_counts 4 (some .boolean) [.ref (ad 0), .int (nI l), .int (nI x), .int (nI t)] (wM ad G (snp T n mo) Hs Xt Tw Qs Ks Lo Wi) (fun u : Unit => wM ad G (snp T n mo) Hs Xt Tw Qs Ks Lo Wi) (fun r u => r = bI (cnt T l x t)) := by
  refine mi_of (by decide +kernel) (Nat.le_of_ble_eq_true rfl) ?_
  intro p e s m args below meth c A Q F hr hlk hQ
  refine v_st (w' := wM ad G (snp T n mo) Hs Xt Tw Qs Ks Lo Wi) (pc' := 0) (st' := []) rfl rfl rfl [0, 1, 2, 3] (lv' := [(0, .ref (ad 0)), (1, .int (nI l)), (2, .int (nI x)), (3, .int (nI t))]) rfl ?_
  refine v_iload_n F dX8_counts_0 2 rfl rfl ?_
  refine v_aload_n F dX8_counts_1 0 rfl rfl ?_
  refine v_iload_n F dX8_counts_2 1 rfl rfl ?_
  refine v_iconst (v := nI 2) F dX8_counts_3 (by decide) ?_
  refine v_cVIF F cs_RX8_50 dX8_counts_4 0 (ci := 8) rfl rfl (m_X8_of lau G ad T n mo Hs Xt Tw Qs Ks Lo Wi l 2 (by omega) (by omega)) (by decide) rfl rfl (Nat.le_of_ble_eq_true rfl) ⟨Nat.zero_le _, Nat.zero_le _⟩ (fun r1 u2 w3 => ?_)
  subst w3
  refine v_aload_n F dX8_counts_7 0 rfl rfl ?_
  refine v_iload_n F dX8_counts_8 1 rfl rfl ?_
  refine v_iconst (v := nI 3) F dX8_counts_9 (by decide) ?_
  refine v_cVIF F cs_RX8_50 dX8_counts_10 0 (ci := 8) rfl rfl (m_X8_of lau G ad T n mo Hs Xt Tw Qs Ks Lo Wi l 3 (by omega) (by omega)) (by decide) rfl rfl (Nat.le_of_ble_eq_true rfl) ⟨Nat.zero_le _, Nat.zero_le _⟩ (fun r4 u5 w6 => ?_)
  subst w6
  refine v_cSIE F cs_RX8_39 dX8_counts_13 (m_X8_in lau G (nI x) (T ((l * 6) + 2)) (T ((l * 6) + 3)) ) (by decide) rfl rfl (Nat.le_of_ble_eq_true rfl) ⟨Nat.zero_le _, Nat.zero_le _⟩ (fun r7 u8 w9 => ?_)
  subst w9
  refine v_if_eq F 42 dX8_counts_16 (by decide) (fun c10 => ?_) (fun c10 => ?_)
  · replace c10 := bI_f c10
    refine v_iconst (v := nI 0) F dX8_counts_42 (by decide) ?_
    exact v_zret F hr hlk hQ rfl dX8_counts_43 (()) rfl (by simp [cnt, spB, lvB, bI, nI_0, nI_one, *])
  · replace c10 := bI_t c10
    refine v_iload_n F dX8_counts_19 3 rfl rfl ?_
    refine v_aload_n F dX8_counts_20 0 rfl rfl ?_
    refine v_iload_n F dX8_counts_21 1 rfl rfl ?_
    refine v_iconst (v := nI 4) F dX8_counts_22 (by decide) ?_
    refine v_cVIF F cs_RX8_50 dX8_counts_23 0 (ci := 8) rfl rfl (m_X8_of lau G ad T n mo Hs Xt Tw Qs Ks Lo Wi l 4 (by omega) (by omega)) (by decide) rfl rfl (Nat.le_of_ble_eq_true rfl) ⟨Nat.zero_le _, Nat.zero_le _⟩ (fun r11 u12 w13 => ?_)
    subst w13
    refine v_aload_n F dX8_counts_26 0 rfl rfl ?_
    refine v_iload_n F dX8_counts_27 1 rfl rfl ?_
    refine v_iconst (v := nI 5) F dX8_counts_28 (by decide) ?_
    refine v_cVIF F cs_RX8_50 dX8_counts_29 0 (ci := 8) rfl rfl (m_X8_of lau G ad T n mo Hs Xt Tw Qs Ks Lo Wi l 5 (by omega) (by omega)) (by decide) rfl rfl (Nat.le_of_ble_eq_true rfl) ⟨Nat.zero_le _, Nat.zero_le _⟩ (fun r14 u15 w16 => ?_)
    subst w16
    refine v_cSIE F cs_RX8_39 dX8_counts_32 (m_X8_in lau G (nI t) (T ((l * 6) + 4)) (T ((l * 6) + 5)) ) (by decide) rfl rfl (Nat.le_of_ble_eq_true rfl) ⟨Nat.zero_le _, Nat.zero_le _⟩ (fun r17 u18 w19 => ?_)
    subst w19
    refine v_if_eq F 42 dX8_counts_35 (by decide) (fun c20 => ?_) (fun c20 => ?_)
    · replace c20 := bI_f c20
      refine v_iconst (v := nI 0) F dX8_counts_42 (by decide) ?_
      exact v_zret F hr hlk hQ rfl dX8_counts_43 (()) rfl (by simp [cnt, spB, lvB, bI, nI_0, nI_one, *])
    · replace c20 := bI_t c20
      refine v_iconst (v := nI 1) F dX8_counts_38 (by decide) ?_
      refine v_goto F 43 dX8_counts_39 (by decide) ?_
      exact v_zret F hr hlk hQ rfl dX8_counts_43 (()) rfl (by simp [cnt, spB, lvB, bI, nI_0, nI_one, *])
set_option maxHeartbeats 400000 in
set_option maxRecDepth 100000 in
theorem m_X8_isLower (lau : Launch) (G : GT) (ad : Nat → Nat) (T : Nat → Int32) (n mo : Nat) (Hs : HT) (Xt : XT) (Tw : Nat) (Qs : QT) (Ks : KS) (Lo Wi : Nat → Int32) (l o x : Nat) (hl : l < 20) (ho : o < 20) : MI lau G 2 yX8_isLower cX8_isLower 4 (some .boolean) [.ref (ad 0), .int (nI l), .int (nI o), .int (nI x)] (wM ad G (snp T n mo) Hs Xt Tw Qs Ks Lo Wi) (fun u : Unit => wM ad G (snp T n mo) Hs Xt Tw Qs Ks Lo Wi) (fun r u => r = bI (low T l o x)) := by
  refine mi_of (by decide +kernel) (Nat.le_of_ble_eq_true rfl) ?_
  intro p e s m args below meth c A Q F hr hlk hQ
  refine v_st (w' := wM ad G (snp T n mo) Hs Xt Tw Qs Ks Lo Wi) (pc' := 0) (st' := []) rfl rfl rfl [0, 1, 2, 3] (lv' := [(0, .ref (ad 0)), (1, .int (nI l)), (2, .int (nI o)), (3, .int (nI x))]) rfl ?_
  refine v_aload_n F dX8_isLower_0 0 rfl rfl ?_
  refine v_iload_n F dX8_isLower_1 1 rfl rfl ?_
  refine v_iload_n F dX8_isLower_2 3 rfl rfl ?_
  refine v_cVIF F cs_RX8_54 dX8_isLower_3 0 (ci := 8) rfl rfl (m_X8_at lau G ad T n mo Hs Xt Tw Qs Ks Lo Wi l x (by omega)) (by decide) rfl rfl (Nat.le_of_ble_eq_true rfl) ⟨Nat.zero_le _, Nat.zero_le _⟩ (fun r1 u2 w3 => ?_)
  subst w3
  refine v_aload_n F dX8_isLower_6 0 rfl rfl ?_
  refine v_iload_n F dX8_isLower_7 2 rfl rfl ?_
  refine v_iload_n F dX8_isLower_8 3 rfl rfl ?_
  refine v_cVIF F cs_RX8_54 dX8_isLower_9 0 (ci := 8) rfl rfl (m_X8_at lau G ad T n mo Hs Xt Tw Qs Ks Lo Wi o x (by omega)) (by decide) rfl rfl (Nat.le_of_ble_eq_true rfl) ⟨Nat.zero_le _, Nat.zero_le _⟩ (fun r4 u5 w6 => ?_)
  subst w6
  refine v_icmp_lt F 35 dX8_isLower_12 (by decide) (fun c7 => ?_) (fun c7 => ?_)
  · refine v_iconst (v := nI 1) F dX8_isLower_35 (by decide) ?_
    refine v_goto F 40 dX8_isLower_36 (by decide) ?_
    exact v_zret F hr hlk hQ rfl dX8_isLower_40 (()) rfl (by simp [low, bI, nI_0, nI_one, *])
  · refine v_aload_n F dX8_isLower_15 0 rfl rfl ?_
    refine v_iload_n F dX8_isLower_16 1 rfl rfl ?_
    refine v_iload_n F dX8_isLower_17 3 rfl rfl ?_
    refine v_cVIF F cs_RX8_54 dX8_isLower_18 0 (ci := 8) rfl rfl (m_X8_at lau G ad T n mo Hs Xt Tw Qs Ks Lo Wi l x (by omega)) (by decide) rfl rfl (Nat.le_of_ble_eq_true rfl) ⟨Nat.zero_le _, Nat.zero_le _⟩ (fun r8 u9 w10 => ?_)
    subst w10
    refine v_aload_n F dX8_isLower_21 0 rfl rfl ?_
    refine v_iload_n F dX8_isLower_22 2 rfl rfl ?_
    refine v_iload_n F dX8_isLower_23 3 rfl rfl ?_
    refine v_cVIF F cs_RX8_54 dX8_isLower_24 0 (ci := 8) rfl rfl (m_X8_at lau G ad T n mo Hs Xt Tw Qs Ks Lo Wi o x (by omega)) (by decide) rfl rfl (Nat.le_of_ble_eq_true rfl) ⟨Nat.zero_le _, Nat.zero_le _⟩ (fun r11 u12 w13 => ?_)
    subst w13
    refine v_icmp_ne F 39 dX8_isLower_27 (by decide) (fun c14 => ?_) (fun c14 => ?_)
    · refine v_iconst (v := nI 0) F dX8_isLower_39 (by decide) ?_
      exact v_zret F hr hlk hQ rfl dX8_isLower_40 (()) rfl (by simp [low, bI, nI_0, nI_one, *])
    · refine v_iload_n F dX8_isLower_30 1 rfl rfl ?_
      refine v_iload_n F dX8_isLower_31 2 rfl rfl ?_
      refine v_icmp_ge F 39 dX8_isLower_32 (by decide) (fun c15 => ?_) (fun c15 => ?_)
      · replace c15 := nG (a := l) (b := o) (by omega) (by omega) c15
        refine v_iconst (v := nI 0) F dX8_isLower_39 (by decide) ?_
        exact v_zret F hr hlk hQ rfl dX8_isLower_40 (()) rfl (by simp [low, bI, nI_0, nI_one, *])
      · replace c15 := nGn (a := l) (b := o) (by omega) (by omega) c15
        refine v_iconst (v := nI 1) F dX8_isLower_35 (by decide) ?_
        refine v_goto F 40 dX8_isLower_36 (by decide) ?_
        exact v_zret F hr hlk hQ rfl dX8_isLower_40 (()) rfl (by simp [low, bI, nI_0, nI_one, *])
theorem cs_RX8_57 : CSV RX8 57 RX8 yX8_counts cX8_counts 4 (some .boolean) 3 := ⟨wC_yX8_counts, wM_RX8_57, wIm_yX8_counts, wSe_yX8_counts, wI_RX8, by decide +kernel, by decide⟩
set_option maxHeartbeats 400000 in
set_option maxRecDepth 100000 in
theorem m_X8_lowestBut (lau : Launch) (G : GT) (ad : Nat → Nat) (T : Nat → Int32) (n mo : Nat) (Hs : HT) (Xt : XT) (Tw : Nat) (Qs : QT) (Ks : KS) (Lo Wi : Nat → Int32) (x t : Nat) (lo : Int32) (hn : n ≤ 20) : MI lau G 2 yX8_lowestBut cX8_lowestBut 7 (some .int) [.ref (ad 0), .int (nI x), .int (nI t), .int lo] (wM ad G (snp T n mo) Hs Xt Tw Qs Ks Lo Wi) (fun u : Unit => wM ad G (snp T n mo) Hs Xt Tw Qs Ks Lo Wi) (fun r u => r = (oI (lb T x t lo n))) := by
  refine mi_of (by decide +kernel) (Nat.le_of_ble_eq_true rfl) ?_
  intro p e s m args below meth c A Q F hr hlk hQ
  refine v_st (w' := wM ad G (snp T n mo) Hs Xt Tw Qs Ks Lo Wi) (pc' := 0) (st' := []) rfl rfl rfl [0, 1, 2, 3] (lv' := [(0, .ref (ad 0)), (1, .int (nI x)), (2, .int (nI t)), (3, .int lo)]) rfl ?_
  refine v_iconst (v := (-1)) F dX8_lowestBut_0 (by decide) ?_
  refine v_istore (lv' := [(4, .int (-1)), (0, .ref (ad 0)), (1, .int (nI x)), (2, .int (nI t)), (3, .int lo)]) F dX8_lowestBut_1 (by decide) rfl ?_
  refine v_iconst (v := nI 0) F dX8_lowestBut_3 (by decide) ?_
  refine v_istore (lv' := [(5, .int (nI 0)), (4, .int (-1)), (0, .ref (ad 0)), (1, .int (nI x)), (2, .int (nI t)), (3, .int lo)]) F dX8_lowestBut_4 (by decide) rfl ?_
  have L6 : ∀ (k_ : Nat) (i : Nat) (a : Int32), n - i < k_ → (i ≤ n) → (a = oI (lb T x t lo i)) → V p lau e (RM 2) s m args below meth c 7 G A Q (wM ad G (snp T n mo) Hs Xt Tw Qs Ks Lo Wi) 0 0 6 [(5, .int (nI i)), (4, .int a), (0, .ref (ad 0)), (1, .int (nI x)), (2, .int (nI t)), (3, .int lo)] [] := by
    intro k_
    induction k_ with
    | zero => exact fun i a hk_ hi ha => absurd hk_ (Nat.not_lt_zero _)
    | succ k_ ih6 =>
      intro i a hk_6 hi ha
      refine v_iload F dX8_lowestBut_6 rfl ?_
      refine v_aload_n F dX8_lowestBut_8 0 rfl rfl ?_
      refine v_get (v := .ref (ad 1)) F inlX8 (ci := 8) rfl 0 (by decide) rfl wF_RX8_7 dX8_lowestBut_9 0 rfl rfl ?_
      refine v_iconst (v := nI 1) F dX8_lowestBut_12 (by decide) ?_
      refine v_ialdN F dX8_lowestBut_13 1 rfl 1 rfl (by omega) (by decide) ((snp T n mo) 1) rfl ?_
      refine v_topi (nI n) rfl ?_
      refine v_icmp_ge F 84 dX8_lowestBut_14 (by decide) (fun c1 => ?_) (fun c1 => ?_)
      · replace c1 := nG (a := i) (b := n) (by omega) (by omega) c1
        refine v_iload F dX8_lowestBut_84 rfl ?_
        exact v_iret F hr hlk hQ dX8_lowestBut_86 (()) rfl (by rw [ha, show i = n by omega])
      · replace c1 := nGn (a := i) (b := n) (by omega) (by omega) c1
        refine v_iload F dX8_lowestBut_17 rfl ?_
        refine v_iload_n F dX8_lowestBut_19 3 rfl rfl ?_
        refine v_icmp_eq F 61 dX8_lowestBut_20 (by decide) (fun h20 => ?_) (fun h20 => ?_)
        · refine v_iconst (v := nI 0) F dX8_lowestBut_61 (by decide) ?_
          refine v_istore (lv' := [(6, .int (nI 0)), (5, .int (nI i)), (4, .int a), (0, .ref (ad 0)), (1, .int (nI x)), (2, .int (nI t)), (3, .int lo)]) F dX8_lowestBut_62 (by decide) rfl ?_
          refine v_iload F dX8_lowestBut_64 rfl ?_
          refine v_if_eq F 74 dX8_lowestBut_66 (by decide) (fun _ => ?_) (fun h => absurd h (by decide))
          refine v_iload F dX8_lowestBut_74 rfl ?_
          refine v_istore (lv' := [(4, .int a), (6, .int (nI 0)), (5, .int (nI i)), (0, .ref (ad 0)), (1, .int (nI x)), (2, .int (nI t)), (3, .int lo)]) F dX8_lowestBut_76 (by decide) rfl ?_
          refine v_iinc (lv' := [(5, .int (nI (i + 1))), (4, .int a), (6, .int (nI 0)), (0, .ref (ad 0)), (1, .int (nI x)), (2, .int (nI t)), (3, .int lo)]) F (nI (i + 1)) dX8_lowestBut_78 rfl (nI_add i 1) (by decide) rfl ?_
          refine v_goto F 6 dX8_lowestBut_81 (by decide) ?_
          refine v_st (w' := wM ad G (snp T n mo) Hs Xt Tw Qs Ks Lo Wi) (pc' := 6) (st' := []) rfl rfl rfl [0, 1, 3, 4, 5, 6] (lv' := [(5, .int (nI (i + 1))), (4, .int a), (0, .ref (ad 0)), (1, .int (nI x)), (2, .int (nI t)), (3, .int lo)]) rfl ?_
          exact ih6 (i + 1) a (by omega) (by omega) (by first | exact lbM_a h20 ha | exact lbM_b h31 ha | exact lbM_c h20 h31 (by omega) h37 ha | exact lbM_d (by omega) hg h54 | exact lbM_e (by omega) h20 h31 hg h54 | exact lbM_a h20 (congrArg oI hg).symm | exact lbM_b h31 (congrArg oI hg).symm)
        · refine v_aload_n F dX8_lowestBut_23 0 rfl rfl ?_
          refine v_iload F dX8_lowestBut_24 rfl ?_
          refine v_iload_n F dX8_lowestBut_26 1 rfl rfl ?_
          refine v_iload_n F dX8_lowestBut_27 2 rfl rfl ?_
          refine v_cVIF F cs_RX8_57 dX8_lowestBut_28 0 (ci := 8) rfl rfl (m_X8_counts lau G ad T n mo Hs Xt Tw Qs Ks Lo Wi i x t (by omega)) (by decide) rfl rfl (Nat.le_of_ble_eq_true rfl) ⟨Nat.zero_le _, Nat.zero_le _⟩ (fun r2 u3 w4 => ?_)
          subst w4
          refine v_if_eq F 61 dX8_lowestBut_31 (by decide) (fun h31 => ?_) (fun h31 => ?_)
          · replace h31 := bI_f h31
            refine v_iconst (v := nI 0) F dX8_lowestBut_61 (by decide) ?_
            refine v_istore (lv' := [(6, .int (nI 0)), (5, .int (nI i)), (4, .int a), (0, .ref (ad 0)), (1, .int (nI x)), (2, .int (nI t)), (3, .int lo)]) F dX8_lowestBut_62 (by decide) rfl ?_
            refine v_iload F dX8_lowestBut_64 rfl ?_
            refine v_if_eq F 74 dX8_lowestBut_66 (by decide) (fun _ => ?_) (fun h => absurd h (by decide))
            refine v_iload F dX8_lowestBut_74 rfl ?_
            refine v_istore (lv' := [(4, .int a), (6, .int (nI 0)), (5, .int (nI i)), (0, .ref (ad 0)), (1, .int (nI x)), (2, .int (nI t)), (3, .int lo)]) F dX8_lowestBut_76 (by decide) rfl ?_
            refine v_iinc (lv' := [(5, .int (nI (i + 1))), (4, .int a), (6, .int (nI 0)), (0, .ref (ad 0)), (1, .int (nI x)), (2, .int (nI t)), (3, .int lo)]) F (nI (i + 1)) dX8_lowestBut_78 rfl (nI_add i 1) (by decide) rfl ?_
            refine v_goto F 6 dX8_lowestBut_81 (by decide) ?_
            refine v_st (w' := wM ad G (snp T n mo) Hs Xt Tw Qs Ks Lo Wi) (pc' := 6) (st' := []) rfl rfl rfl [0, 1, 3, 4, 5, 6] (lv' := [(5, .int (nI (i + 1))), (4, .int a), (0, .ref (ad 0)), (1, .int (nI x)), (2, .int (nI t)), (3, .int lo)]) rfl ?_
            exact ih6 (i + 1) a (by omega) (by omega) (by first | exact lbM_a h20 ha | exact lbM_b h31 ha | exact lbM_c h20 h31 (by omega) h37 ha | exact lbM_d (by omega) hg h54 | exact lbM_e (by omega) h20 h31 hg h54 | exact lbM_a h20 (congrArg oI hg).symm | exact lbM_b h31 (congrArg oI hg).symm)
          · replace h31 := bI_t h31
            refine v_iload F dX8_lowestBut_34 rfl ?_
            refine v_iconst (v := (-1)) F dX8_lowestBut_36 (by decide) ?_
            refine v_icmp_eq F 57 dX8_lowestBut_37 (by decide) (fun h37 => ?_) (fun h37 => ?_)
            · refine v_iconst (v := nI 1) F dX8_lowestBut_57 (by decide) ?_
              refine v_goto F 62 dX8_lowestBut_58 (by decide) ?_
              refine v_istore (lv' := [(6, .int (nI 1)), (5, .int (nI i)), (4, .int a), (0, .ref (ad 0)), (1, .int (nI x)), (2, .int (nI t)), (3, .int lo)]) F dX8_lowestBut_62 (by decide) rfl ?_
              refine v_iload F dX8_lowestBut_64 rfl ?_
              refine v_if_eq F 74 dX8_lowestBut_66 (by decide) (fun h => absurd h (by decide)) (fun _ => ?_)
              refine v_iload F dX8_lowestBut_69 rfl ?_
              refine v_goto F 76 dX8_lowestBut_71 (by decide) ?_
              refine v_istore (lv' := [(4, .int (nI i)), (6, .int (nI 1)), (5, .int (nI i)), (0, .ref (ad 0)), (1, .int (nI x)), (2, .int (nI t)), (3, .int lo)]) F dX8_lowestBut_76 (by decide) rfl ?_
              refine v_iinc (lv' := [(5, .int (nI (i + 1))), (4, .int (nI i)), (6, .int (nI 1)), (0, .ref (ad 0)), (1, .int (nI x)), (2, .int (nI t)), (3, .int lo)]) F (nI (i + 1)) dX8_lowestBut_78 rfl (nI_add i 1) (by decide) rfl ?_
              refine v_goto F 6 dX8_lowestBut_81 (by decide) ?_
              refine v_st (w' := wM ad G (snp T n mo) Hs Xt Tw Qs Ks Lo Wi) (pc' := 6) (st' := []) rfl rfl rfl [0, 1, 3, 4, 5, 6] (lv' := [(5, .int (nI (i + 1))), (4, .int (nI i)), (0, .ref (ad 0)), (1, .int (nI x)), (2, .int (nI t)), (3, .int lo)]) rfl ?_
              exact ih6 (i + 1) (nI i) (by omega) (by omega) (by first | exact lbM_a h20 ha | exact lbM_b h31 ha | exact lbM_c h20 h31 (by omega) h37 ha | exact lbM_d (by omega) hg h54 | exact lbM_e (by omega) h20 h31 hg h54 | exact lbM_a h20 (congrArg oI hg).symm | exact lbM_b h31 (congrArg oI hg).symm)
            · obtain ⟨g, hg, rfl⟩ := oI_g ha h37
              have hgl := lb_lt _ _ _ _ _ _ hg
              refine v_aload_n F dX8_lowestBut_40 0 rfl rfl ?_
              refine v_iload F dX8_lowestBut_41 rfl ?_
              refine v_iload_n F dX8_lowestBut_43 1 rfl rfl ?_
              refine v_cVIF F cs_RX8_54 dX8_lowestBut_44 0 (ci := 8) rfl rfl (m_X8_at lau G ad T n mo Hs Xt Tw Qs Ks Lo Wi i x (by omega)) (by decide) rfl rfl (Nat.le_of_ble_eq_true rfl) ⟨Nat.zero_le _, Nat.zero_le _⟩ (fun r5 u6 w7 => ?_)
              subst w7
              refine v_aload_n F dX8_lowestBut_47 0 rfl rfl ?_
              refine v_iload F dX8_lowestBut_48 rfl ?_
              refine v_iload_n F dX8_lowestBut_50 1 rfl rfl ?_
              refine v_cVIF F cs_RX8_54 dX8_lowestBut_51 0 (ci := 8) rfl rfl (m_X8_at lau G ad T n mo Hs Xt Tw Qs Ks Lo Wi g x (by omega)) (by decide) rfl rfl (Nat.le_of_ble_eq_true rfl) ⟨Nat.zero_le _, Nat.zero_le _⟩ (fun r8 u9 w10 => ?_)
              subst w10
              refine v_icmp_ge F 61 dX8_lowestBut_54 (by decide) (fun h54 => ?_) (fun h54 => ?_)
              · refine v_iconst (v := nI 0) F dX8_lowestBut_61 (by decide) ?_
                refine v_istore (lv' := [(6, .int (nI 0)), (5, .int (nI i)), (4, .int (nI g)), (0, .ref (ad 0)), (1, .int (nI x)), (2, .int (nI t)), (3, .int lo)]) F dX8_lowestBut_62 (by decide) rfl ?_
                refine v_iload F dX8_lowestBut_64 rfl ?_
                refine v_if_eq F 74 dX8_lowestBut_66 (by decide) (fun _ => ?_) (fun h => absurd h (by decide))
                refine v_iload F dX8_lowestBut_74 rfl ?_
                refine v_istore (lv' := [(4, .int (nI g)), (6, .int (nI 0)), (5, .int (nI i)), (0, .ref (ad 0)), (1, .int (nI x)), (2, .int (nI t)), (3, .int lo)]) F dX8_lowestBut_76 (by decide) rfl ?_
                refine v_iinc (lv' := [(5, .int (nI (i + 1))), (4, .int (nI g)), (6, .int (nI 0)), (0, .ref (ad 0)), (1, .int (nI x)), (2, .int (nI t)), (3, .int lo)]) F (nI (i + 1)) dX8_lowestBut_78 rfl (nI_add i 1) (by decide) rfl ?_
                refine v_goto F 6 dX8_lowestBut_81 (by decide) ?_
                refine v_st (w' := wM ad G (snp T n mo) Hs Xt Tw Qs Ks Lo Wi) (pc' := 6) (st' := []) rfl rfl rfl [0, 1, 3, 4, 5, 6] (lv' := [(5, .int (nI (i + 1))), (4, .int (nI g)), (0, .ref (ad 0)), (1, .int (nI x)), (2, .int (nI t)), (3, .int lo)]) rfl ?_
                exact ih6 (i + 1) (nI g) (by omega) (by omega) (by first | exact lbM_a h20 ha | exact lbM_b h31 ha | exact lbM_c h20 h31 (by omega) h37 ha | exact lbM_d (by omega) hg h54 | exact lbM_e (by omega) h20 h31 hg h54 | exact lbM_a h20 (congrArg oI hg).symm | exact lbM_b h31 (congrArg oI hg).symm)
              · refine v_iconst (v := nI 1) F dX8_lowestBut_57 (by decide) ?_
                refine v_goto F 62 dX8_lowestBut_58 (by decide) ?_
                refine v_istore (lv' := [(6, .int (nI 1)), (5, .int (nI i)), (4, .int (nI g)), (0, .ref (ad 0)), (1, .int (nI x)), (2, .int (nI t)), (3, .int lo)]) F dX8_lowestBut_62 (by decide) rfl ?_
                refine v_iload F dX8_lowestBut_64 rfl ?_
                refine v_if_eq F 74 dX8_lowestBut_66 (by decide) (fun h => absurd h (by decide)) (fun _ => ?_)
                refine v_iload F dX8_lowestBut_69 rfl ?_
                refine v_goto F 76 dX8_lowestBut_71 (by decide) ?_
                refine v_istore (lv' := [(4, .int (nI i)), (6, .int (nI 1)), (5, .int (nI i)), (0, .ref (ad 0)), (1, .int (nI x)), (2, .int (nI t)), (3, .int lo)]) F dX8_lowestBut_76 (by decide) rfl ?_
                refine v_iinc (lv' := [(5, .int (nI (i + 1))), (4, .int (nI i)), (6, .int (nI 1)), (0, .ref (ad 0)), (1, .int (nI x)), (2, .int (nI t)), (3, .int lo)]) F (nI (i + 1)) dX8_lowestBut_78 rfl (nI_add i 1) (by decide) rfl ?_
                refine v_goto F 6 dX8_lowestBut_81 (by decide) ?_
                refine v_st (w' := wM ad G (snp T n mo) Hs Xt Tw Qs Ks Lo Wi) (pc' := 6) (st' := []) rfl rfl rfl [0, 1, 3, 4, 5, 6] (lv' := [(5, .int (nI (i + 1))), (4, .int (nI i)), (0, .ref (ad 0)), (1, .int (nI x)), (2, .int (nI t)), (3, .int lo)]) rfl ?_
                exact ih6 (i + 1) (nI i) (by omega) (by omega) (by first | exact lbM_a h20 ha | exact lbM_b h31 ha | exact lbM_c h20 h31 (by omega) h37 ha | exact lbM_d (by omega) hg h54 | exact lbM_e (by omega) h20 h31 hg h54 | exact lbM_a h20 (congrArg oI hg).symm | exact lbM_b h31 (congrArg oI hg).symm)
  refine v_st (w' := wM ad G (snp T n mo) Hs Xt Tw Qs Ks Lo Wi) (pc' := 6) (st' := []) rfl rfl rfl [0, 1, 2, 3, 4, 5] (lv' := [(5, .int (nI 0)), (4, .int (-1)), (0, .ref (ad 0)), (1, .int (nI x)), (2, .int (nI t)), (3, .int lo)]) rfl ?_
  exact L6 _ 0 (-1) (Nat.lt_succ_self _) (by omega) (rfl)
theorem cs_RX8_60 : CSV RX8 60 RX8 yX8_lowestBut cX8_lowestBut 7 (some .int) 3 := ⟨wC_yX8_lowestBut, wM_RX8_60, wIm_yX8_lowestBut, wSe_yX8_lowestBut, wI_RX8, by decide +kernel, by decide⟩
set_option maxHeartbeats 400000 in
set_option maxRecDepth 100000 in
theorem m_X8_lowers (lau : Launch) (G : GT) (ad : Nat → Nat) (T : Nat → Int32) (n mo : Nat) (Hs : HT) (Xt : XT) (Tw : Nat) (Qs : QT) (Ks : KS) (Lo Wi : Nat → Int32) (hn : n ≤ 20) : MV lau G 3 yX8_lowers cX8_lowers 2 none [.ref (ad 0)] (wM ad G (snp T n mo) Hs Xt Tw Qs Ks Lo Wi) (fun u : Nat → Int32 => wM ad G (snp T n mo) Hs Xt Tw Qs Ks u Wi) (fun u => ∀ x, x < 64 → u x = plo T n mo x) := by
  refine mv_of (by decide +kernel) (Nat.le_of_ble_eq_true rfl) ?_
  intro p e s m args below meth c A Q F hr hlk hQ
  refine v_st (w' := wM ad G (snp T n mo) Hs Xt Tw Qs Ks Lo Wi) (pc' := 0) (st' := []) rfl rfl rfl [0] (lv' := [(0, .ref (ad 0))]) rfl ?_
  refine v_iconst (v := nI 0) F dX8_lowers_0 (by decide) ?_
  refine v_istore_n (lv' := [(1, .int (nI 0)), (0, .ref (ad 0))]) F dX8_lowers_1 1 rfl (by decide) rfl ?_
  have L2 : ∀ (k_ : Nat) (i : Nat) (lw : Nat → Int32), 64 - i < k_ → (i ≤ 64) → (∀ x, x < i → lw x = plo T n mo x) → V p lau e (RM 3) s m args below meth c 2 G A Q (wM ad G (snp T n mo) Hs Xt Tw Qs Ks lw Wi) 0 0 2 [(1, .int (nI i)), (0, .ref (ad 0))] [] := by
    intro k_
    induction k_ with
    | zero => exact fun i lw hk_ hi hlo => absurd hk_ (Nat.not_lt_zero _)
    | succ k_ ih2 =>
      intro i lw hk_2 hi hlo
      refine v_iload_n F dX8_lowers_2 1 rfl rfl ?_
      refine v_bipush (v := nI 64) F dX8_lowers_3 (by decide) ?_
      refine v_icmp_ge F 32 dX8_lowers_5 (by decide) (fun c1 => ?_) (fun c1 => ?_)
      · replace c1 := nG (a := i) (b := 64) (by omega) (by decide) c1
        exact v_vret F hr hlk hQ dX8_lowers_32 (lw) rfl (by rw [show (64 : Nat) = i by omega]; exact hlo)
      · replace c1 := nGn (a := i) (b := 64) (by omega) (by decide) c1
        refine v_aload_n F dX8_lowers_8 0 rfl rfl ?_
        refine v_get (v := .ref (ad 7)) F inlX8 (ci := 8) rfl 13 (by decide) rfl wF_RX8_28 dX8_lowers_9 0 rfl rfl ?_
        refine v_iload_n F dX8_lowers_12 1 rfl rfl ?_
        refine v_aload_n F dX8_lowers_13 0 rfl rfl ?_
        refine v_iload_n F dX8_lowers_14 1 rfl rfl ?_
        refine v_aload_n F dX8_lowers_15 0 rfl rfl ?_
        refine v_get (v := .ref (ad 1)) F inlX8 (ci := 8) rfl 0 (by decide) rfl wF_RX8_7 dX8_lowers_16 0 rfl rfl ?_
        refine v_iconst (v := nI 0) F dX8_lowers_19 (by decide) ?_
        refine v_ialdN F dX8_lowers_20 1 rfl 0 rfl (by omega) (by decide) ((snp T n mo) 0) rfl ?_
        refine v_topi (nI mo) rfl ?_
        refine v_iconst (v := (-1)) F dX8_lowers_21 (by decide) ?_
        refine v_cVIF F cs_RX8_60 dX8_lowers_22 0 (ci := 8) rfl rfl (m_X8_lowestBut lau G ad T n mo Hs Xt Tw Qs Ks lw Wi i mo (-1) (by omega)) (by decide) rfl rfl (Nat.le_of_ble_eq_true rfl) ⟨Nat.zero_le _, Nat.zero_le _⟩ (fun r2 u3 w4 => ?_)
        subst w4
        refine v_iastN F dX8_lowers_25 7 rfl i rfl (by omega) (by decide) (wM ad G (snp T n mo) Hs Xt Tw Qs Ks (upd lw i (oI (lb T i mo ((-1)) n))) Wi) rfl ?_
        refine v_iinc (lv' := [(1, .int (nI (i + 1))), (0, .ref (ad 0))]) F (nI (i + 1)) dX8_lowers_26 rfl (nI_add i 1) (by decide) rfl ?_
        refine v_goto F 2 dX8_lowers_29 (by decide) ?_
        refine v_st (w' := wM ad G (snp T n mo) Hs Xt Tw Qs Ks (upd lw i (oI (lb T i mo ((-1)) n))) Wi) (pc' := 2) (st' := []) rfl rfl rfl [0, 1] (lv' := [(1, .int (nI (i + 1))), (0, .ref (ad 0))]) rfl ?_
        exact ih2 (i + 1) (upd lw i (oI (lb T i mo ((-1)) n))) (by omega) (by omega) (pl_step hlo)
  refine v_st (w' := wM ad G (snp T n mo) Hs Xt Tw Qs Ks Lo Wi) (pc' := 2) (st' := []) rfl rfl rfl [0, 1] (lv' := [(1, .int (nI 0)), (0, .ref (ad 0))]) rfl ?_
  exact L2 _ 0 Lo (Nat.lt_succ_self _) (by omega) (fun x hx => absurd hx (Nat.not_lt_zero x))
theorem cs_RX8_111 : CSV RX8 111 RX8 yX8_isLower cX8_isLower 4 (some .boolean) 3 := ⟨wC_yX8_isLower, wM_RX8_111, wIm_yX8_isLower, wSe_yX8_isLower, wI_RX8, by decide +kernel, by decide⟩
set_option maxHeartbeats 400000 in
set_option maxRecDepth 100000 in
theorem m_X8_rankedAt (lau : Launch) (G : GT) (ad : Nat → Nat) (T : Nat → Int32) (n mo : Nat) (Hs : HT) (Xt : XT) (Tw : Nat) (Qs : QT) (Ks : KS) (Lo Wi : Nat → Int32) (x rk : Nat) (hrk : rk < 2147483648) (hn : n ≤ 20) : MI lau G 3 yX8_rankedAt cX8_rankedAt 6 (some .int) [.ref (ad 0), .int (nI x), .int (nI rk)] (wM ad G (snp T n mo) Hs Xt Tw Qs Ks Lo Wi) (fun u : Unit => wM ad G (snp T n mo) Hs Xt Tw Qs Ks Lo Wi) (fun r u => r = (rkV T n mo x rk)) := by
  refine mi_of (by decide +kernel) (Nat.le_of_ble_eq_true rfl) ?_
  intro p e s m args below meth c A Q F hr hlk hQ
  refine v_st (w' := wM ad G (snp T n mo) Hs Xt Tw Qs Ks Lo Wi) (pc' := 0) (st' := []) rfl rfl rfl [0, 1, 2] (lv' := [(0, .ref (ad 0)), (1, .int (nI x)), (2, .int (nI rk))]) rfl ?_
  refine v_iconst (v := nI 0) F dX8_rankedAt_0 (by decide) ?_
  refine v_istore_n (lv' := [(3, .int (nI 0)), (0, .ref (ad 0)), (1, .int (nI x)), (2, .int (nI rk))]) F dX8_rankedAt_1 3 rfl (by decide) rfl ?_
  have L2 : ∀ (k_ : Nat) (i : Nat), n - i < k_ → (i ≤ n) → (∀ j, j < i → rkP T n mo x rk j = false) → V p lau e (RM 3) s m args below meth c 6 G A Q (wM ad G (snp T n mo) Hs Xt Tw Qs Ks Lo Wi) 0 0 2 [(3, .int (nI i)), (0, .ref (ad 0)), (1, .int (nI x)), (2, .int (nI rk))] [] := by
    intro k_
    induction k_ with
    | zero => exact fun i hk_ hi hno => absurd hk_ (Nat.not_lt_zero _)
    | succ k_ ih2 =>
      intro i hk_2 hi hno
      refine v_iload_n F dX8_rankedAt_2 3 rfl rfl ?_
      refine v_aload_n F dX8_rankedAt_3 0 rfl rfl ?_
      refine v_get (v := .ref (ad 1)) F inlX8 (ci := 8) rfl 0 (by decide) rfl wF_RX8_7 dX8_rankedAt_4 0 rfl rfl ?_
      refine v_iconst (v := nI 1) F dX8_rankedAt_7 (by decide) ?_
      refine v_ialdN F dX8_rankedAt_8 1 rfl 1 rfl (by omega) (by decide) ((snp T n mo) 1) rfl ?_
      refine v_topi (nI n) rfl ?_
      refine v_icmp_ge F 107 dX8_rankedAt_9 (by decide) (fun c1 => ?_) (fun c1 => ?_)
      · replace c1 := nG (a := i) (b := n) (by omega) (by omega) c1
        refine v_iconst (v := (-1)) F dX8_rankedAt_107 (by decide) ?_
        exact v_iret F hr hlk hQ dX8_rankedAt_108 (()) rfl (by exact orN_n (by omega) hno)
      · replace c1 := nGn (a := i) (b := n) (by omega) (by omega) c1
        refine v_iconst (v := nI 0) F dX8_rankedAt_12 (by decide) ?_
        refine v_istore (lv' := [(4, .int (nI 0)), (3, .int (nI i)), (0, .ref (ad 0)), (1, .int (nI x)), (2, .int (nI rk))]) F dX8_rankedAt_13 (by decide) rfl ?_
        refine v_iconst (v := nI 0) F dX8_rankedAt_15 (by decide) ?_
        refine v_istore (lv' := [(5, .int (nI 0)), (4, .int (nI 0)), (3, .int (nI i)), (0, .ref (ad 0)), (1, .int (nI x)), (2, .int (nI rk))]) F dX8_rankedAt_16 (by decide) rfl ?_
        have L18 : ∀ (k_ : Nat) (j : Nat) (k : Nat), n - j < k_ → (j ≤ n) → (k = rnk T i x mo j) → V p lau e (RM 3) s m args below meth c 6 G A Q (wM ad G (snp T n mo) Hs Xt Tw Qs Ks Lo Wi) 0 0 18 [(5, .int (nI j)), (4, .int (nI k)), (3, .int (nI i)), (0, .ref (ad 0)), (1, .int (nI x)), (2, .int (nI rk))] [] := by
          intro k_
          induction k_ with
          | zero => exact fun j k hk_ hj hk => absurd hk_ (Nat.not_lt_zero _)
          | succ k_ ih18 =>
            intro j k hk_18 hj hk
            have hrb := rnk_le T i x mo j
            refine v_iload F dX8_rankedAt_18 rfl ?_
            refine v_aload_n F dX8_rankedAt_20 0 rfl rfl ?_
            refine v_get (v := .ref (ad 1)) F inlX8 (ci := 8) rfl 0 (by decide) rfl wF_RX8_7 dX8_rankedAt_21 0 rfl rfl ?_
            refine v_iconst (v := nI 1) F dX8_rankedAt_24 (by decide) ?_
            refine v_ialdN F dX8_rankedAt_25 1 rfl 1 rfl (by omega) (by decide) ((snp T n mo) 1) rfl ?_
            refine v_topi (nI n) rfl ?_
            refine v_icmp_ge F 78 dX8_rankedAt_26 (by decide) (fun c2 => ?_) (fun c2 => ?_)
            · replace c2 := nG (a := j) (b := n) (by omega) (by omega) c2
              have hje : n = j := by omega
              subst hje
              refine v_aload_n F dX8_rankedAt_78 0 rfl rfl ?_
              refine v_iload_n F dX8_rankedAt_79 3 rfl rfl ?_
              refine v_iload_n F dX8_rankedAt_80 1 rfl rfl ?_
              refine v_aload_n F dX8_rankedAt_81 0 rfl rfl ?_
              refine v_get (v := .ref (ad 1)) F inlX8 (ci := 8) rfl 0 (by decide) rfl wF_RX8_7 dX8_rankedAt_82 0 rfl rfl ?_
              refine v_iconst (v := nI 0) F dX8_rankedAt_85 (by decide) ?_
              refine v_ialdN F dX8_rankedAt_86 1 rfl 0 rfl (by omega) (by decide) ((snp T n mo) 0) rfl ?_
              refine v_topi (nI mo) rfl ?_
              refine v_cVIF F cs_RX8_57 dX8_rankedAt_87 0 (ci := 8) rfl rfl (m_X8_counts lau G ad T n mo Hs Xt Tw Qs Ks Lo Wi i x mo (by omega)) (by decide) rfl rfl (Nat.le_of_ble_eq_true rfl) ⟨Nat.zero_le _, Nat.zero_le _⟩ (fun r3 u4 w5 => ?_)
              subst w5
              refine v_if_eq F 101 dX8_rankedAt_90 (by decide) (fun h90 => ?_) (fun h90 => ?_)
              · replace h90 := bI_f h90
                refine v_iinc (lv' := [(3, .int (nI (i + 1))), (5, .int (nI n)), (4, .int (nI k)), (0, .ref (ad 0)), (1, .int (nI x)), (2, .int (nI rk))]) F (nI (i + 1)) dX8_rankedAt_101 rfl (nI_add i 1) (by decide) rfl ?_
                refine v_goto F 2 dX8_rankedAt_104 (by decide) ?_
                refine v_st (w' := wM ad G (snp T n mo) Hs Xt Tw Qs Ks Lo Wi) (pc' := 2) (st' := []) rfl rfl rfl [0, 3, 4, 5] (lv' := [(3, .int (nI (i + 1))), (0, .ref (ad 0)), (1, .int (nI x)), (2, .int (nI rk))]) rfl ?_
                exact ih2 (i + 1) (by omega) (by omega) (lf_s hno (by simp [rkP, *]))
              · replace h90 := bI_t h90
                refine v_iload F dX8_rankedAt_93 rfl ?_
                refine v_iload_n F dX8_rankedAt_95 2 rfl rfl ?_
                refine v_icmp_ne F 101 dX8_rankedAt_96 (by decide) (fun h96 => ?_) (fun h96 => ?_)
                · replace h96 := nEn (a := k) (b := rk) (by omega) (by omega) h96
                  rw [hk] at h96
                  refine v_iinc (lv' := [(3, .int (nI (i + 1))), (5, .int (nI n)), (4, .int (nI k)), (0, .ref (ad 0)), (1, .int (nI x)), (2, .int (nI rk))]) F (nI (i + 1)) dX8_rankedAt_101 rfl (nI_add i 1) (by decide) rfl ?_
                  refine v_goto F 2 dX8_rankedAt_104 (by decide) ?_
                  refine v_st (w' := wM ad G (snp T n mo) Hs Xt Tw Qs Ks Lo Wi) (pc' := 2) (st' := []) rfl rfl rfl [0, 3, 4, 5] (lv' := [(3, .int (nI (i + 1))), (0, .ref (ad 0)), (1, .int (nI x)), (2, .int (nI rk))]) rfl ?_
                  exact ih2 (i + 1) (by omega) (by omega) (lf_s hno (by simp [rkP, *]))
                · replace h96 := nE (a := k) (b := rk) (by omega) (by omega) h96
                  rw [hk] at h96
                  refine v_iload_n F dX8_rankedAt_99 3 rfl rfl ?_
                  exact v_iret F hr hlk hQ dX8_rankedAt_100 (()) rfl (by exact orN_y (by omega) (by simp [rkP, *]) hno)
            · replace c2 := nGn (a := j) (b := n) (by omega) (by omega) c2
              refine v_iload F dX8_rankedAt_29 rfl ?_
              refine v_iload F dX8_rankedAt_31 rfl ?_
              refine v_iload_n F dX8_rankedAt_33 3 rfl rfl ?_
              refine v_icmp_eq F 68 dX8_rankedAt_34 (by decide) (fun h34 => ?_) (fun h34 => ?_)
              · replace h34 := nE (a := j) (b := i) (by omega) (by omega) h34
                refine v_iconst (v := nI 0) F dX8_rankedAt_68 (by decide) ?_
                refine v_iadd F dX8_rankedAt_69 ?_
                refine v_topi (nI (k + 0)) (nI_add k 0) ?_
                refine v_istore (lv' := [(4, .int (nI (k + 0))), (5, .int (nI j)), (3, .int (nI i)), (0, .ref (ad 0)), (1, .int (nI x)), (2, .int (nI rk))]) F dX8_rankedAt_70 (by decide) rfl ?_
                refine v_iinc (lv' := [(5, .int (nI (j + 1))), (4, .int (nI (k + 0))), (3, .int (nI i)), (0, .ref (ad 0)), (1, .int (nI x)), (2, .int (nI rk))]) F (nI (j + 1)) dX8_rankedAt_72 rfl (nI_add j 1) (by decide) rfl ?_
                refine v_goto F 18 dX8_rankedAt_75 (by decide) ?_
                refine v_st (w' := wM ad G (snp T n mo) Hs Xt Tw Qs Ks Lo Wi) (pc' := 18) (st' := []) rfl rfl rfl [0, 1, 2, 3, 4, 5] (lv' := [(5, .int (nI (j + 1))), (4, .int (nI (k + 0))), (3, .int (nI i)), (0, .ref (ad 0)), (1, .int (nI x)), (2, .int (nI rk))]) rfl ?_
                exact ih18 (j + 1) (k + 0) (by omega) (by omega) (by simp [rnk, low_self, *])
              · replace h34 := nEn (a := j) (b := i) (by omega) (by omega) h34
                refine v_aload_n F dX8_rankedAt_37 0 rfl rfl ?_
                refine v_iload F dX8_rankedAt_38 rfl ?_
                refine v_iload_n F dX8_rankedAt_40 1 rfl rfl ?_
                refine v_aload_n F dX8_rankedAt_41 0 rfl rfl ?_
                refine v_get (v := .ref (ad 1)) F inlX8 (ci := 8) rfl 0 (by decide) rfl wF_RX8_7 dX8_rankedAt_42 0 rfl rfl ?_
                refine v_iconst (v := nI 0) F dX8_rankedAt_45 (by decide) ?_
                refine v_ialdN F dX8_rankedAt_46 1 rfl 0 rfl (by omega) (by decide) ((snp T n mo) 0) rfl ?_
                refine v_topi (nI mo) rfl ?_
                refine v_cVIF F cs_RX8_57 dX8_rankedAt_47 0 (ci := 8) rfl rfl (m_X8_counts lau G ad T n mo Hs Xt Tw Qs Ks Lo Wi j x mo (by omega)) (by decide) rfl rfl (Nat.le_of_ble_eq_true rfl) ⟨Nat.zero_le _, Nat.zero_le _⟩ (fun r6 u7 w8 => ?_)
                subst w8
                refine v_if_eq F 68 dX8_rankedAt_50 (by decide) (fun h50 => ?_) (fun h50 => ?_)
                · replace h50 := bI_f h50
                  refine v_iconst (v := nI 0) F dX8_rankedAt_68 (by decide) ?_
                  refine v_iadd F dX8_rankedAt_69 ?_
                  refine v_topi (nI (k + 0)) (nI_add k 0) ?_
                  refine v_istore (lv' := [(4, .int (nI (k + 0))), (5, .int (nI j)), (3, .int (nI i)), (0, .ref (ad 0)), (1, .int (nI x)), (2, .int (nI rk))]) F dX8_rankedAt_70 (by decide) rfl ?_
                  refine v_iinc (lv' := [(5, .int (nI (j + 1))), (4, .int (nI (k + 0))), (3, .int (nI i)), (0, .ref (ad 0)), (1, .int (nI x)), (2, .int (nI rk))]) F (nI (j + 1)) dX8_rankedAt_72 rfl (nI_add j 1) (by decide) rfl ?_
                  refine v_goto F 18 dX8_rankedAt_75 (by decide) ?_
                  refine v_st (w' := wM ad G (snp T n mo) Hs Xt Tw Qs Ks Lo Wi) (pc' := 18) (st' := []) rfl rfl rfl [0, 1, 2, 3, 4, 5] (lv' := [(5, .int (nI (j + 1))), (4, .int (nI (k + 0))), (3, .int (nI i)), (0, .ref (ad 0)), (1, .int (nI x)), (2, .int (nI rk))]) rfl ?_
                  exact ih18 (j + 1) (k + 0) (by omega) (by omega) (by simp [rnk, low_self, *])
                · replace h50 := bI_t h50
                  refine v_aload_n F dX8_rankedAt_53 0 rfl rfl ?_
                  refine v_iload F dX8_rankedAt_54 rfl ?_
                  refine v_iload_n F dX8_rankedAt_56 3 rfl rfl ?_
                  refine v_iload_n F dX8_rankedAt_57 1 rfl rfl ?_
                  refine v_cVIF F cs_RX8_111 dX8_rankedAt_58 0 (ci := 8) rfl rfl (m_X8_isLower lau G ad T n mo Hs Xt Tw Qs Ks Lo Wi j i x (by omega) (by omega)) (by decide) rfl rfl (Nat.le_of_ble_eq_true rfl) ⟨Nat.zero_le _, Nat.zero_le _⟩ (fun r9 u10 w11 => ?_)
                  subst w11
                  refine v_if_eq F 68 dX8_rankedAt_61 (by decide) (fun h61 => ?_) (fun h61 => ?_)
                  · replace h61 := bI_f h61
                    refine v_iconst (v := nI 0) F dX8_rankedAt_68 (by decide) ?_
                    refine v_iadd F dX8_rankedAt_69 ?_
                    refine v_topi (nI (k + 0)) (nI_add k 0) ?_
                    refine v_istore (lv' := [(4, .int (nI (k + 0))), (5, .int (nI j)), (3, .int (nI i)), (0, .ref (ad 0)), (1, .int (nI x)), (2, .int (nI rk))]) F dX8_rankedAt_70 (by decide) rfl ?_
                    refine v_iinc (lv' := [(5, .int (nI (j + 1))), (4, .int (nI (k + 0))), (3, .int (nI i)), (0, .ref (ad 0)), (1, .int (nI x)), (2, .int (nI rk))]) F (nI (j + 1)) dX8_rankedAt_72 rfl (nI_add j 1) (by decide) rfl ?_
                    refine v_goto F 18 dX8_rankedAt_75 (by decide) ?_
                    refine v_st (w' := wM ad G (snp T n mo) Hs Xt Tw Qs Ks Lo Wi) (pc' := 18) (st' := []) rfl rfl rfl [0, 1, 2, 3, 4, 5] (lv' := [(5, .int (nI (j + 1))), (4, .int (nI (k + 0))), (3, .int (nI i)), (0, .ref (ad 0)), (1, .int (nI x)), (2, .int (nI rk))]) rfl ?_
                    exact ih18 (j + 1) (k + 0) (by omega) (by omega) (by simp [rnk, low_self, *])
                  · replace h61 := bI_t h61
                    refine v_iconst (v := nI 1) F dX8_rankedAt_64 (by decide) ?_
                    refine v_goto F 69 dX8_rankedAt_65 (by decide) ?_
                    refine v_iadd F dX8_rankedAt_69 ?_
                    refine v_topi (nI (k + 1)) (nI_add k 1) ?_
                    refine v_istore (lv' := [(4, .int (nI (k + 1))), (5, .int (nI j)), (3, .int (nI i)), (0, .ref (ad 0)), (1, .int (nI x)), (2, .int (nI rk))]) F dX8_rankedAt_70 (by decide) rfl ?_
                    refine v_iinc (lv' := [(5, .int (nI (j + 1))), (4, .int (nI (k + 1))), (3, .int (nI i)), (0, .ref (ad 0)), (1, .int (nI x)), (2, .int (nI rk))]) F (nI (j + 1)) dX8_rankedAt_72 rfl (nI_add j 1) (by decide) rfl ?_
                    refine v_goto F 18 dX8_rankedAt_75 (by decide) ?_
                    refine v_st (w' := wM ad G (snp T n mo) Hs Xt Tw Qs Ks Lo Wi) (pc' := 18) (st' := []) rfl rfl rfl [0, 1, 2, 3, 4, 5] (lv' := [(5, .int (nI (j + 1))), (4, .int (nI (k + 1))), (3, .int (nI i)), (0, .ref (ad 0)), (1, .int (nI x)), (2, .int (nI rk))]) rfl ?_
                    exact ih18 (j + 1) (k + 1) (by omega) (by omega) (by simp [rnk, low_self, *])
        refine v_st (w' := wM ad G (snp T n mo) Hs Xt Tw Qs Ks Lo Wi) (pc' := 18) (st' := []) rfl rfl rfl [0, 1, 2, 3, 4, 5] (lv' := [(5, .int (nI 0)), (4, .int (nI 0)), (3, .int (nI i)), (0, .ref (ad 0)), (1, .int (nI x)), (2, .int (nI rk))]) rfl ?_
        exact L18 _ 0 0 (Nat.lt_succ_self _) (by omega) (rfl)
  refine v_st (w' := wM ad G (snp T n mo) Hs Xt Tw Qs Ks Lo Wi) (pc' := 2) (st' := []) rfl rfl rfl [0, 1, 2, 3] (lv' := [(3, .int (nI 0)), (0, .ref (ad 0)), (1, .int (nI x)), (2, .int (nI rk))]) rfl ?_
  exact L2 _ 0 (Nat.lt_succ_self _) (by omega) (fun j hj => absurd hj (Nat.not_lt_zero j))
theorem cs_RX8_168 : CSV RX8 168 RX8 yX8_lowers cX8_lowers 2 none 0 := ⟨wC_yX8_lowers, wM_RX8_168, wIm_yX8_lowers, wSe_yX8_lowers, wI_RX8, by decide +kernel, by decide⟩
set_option maxHeartbeats 400000 in
set_option maxRecDepth 100000 in
theorem m_X8_sumOf (lau : Launch) (G : GT) (ad : Nat → Nat) (T : Nat → Int32) (n mo : Nat) (Hs : HT) (Xt : XT) (Tw : Nat) (Qs : QT) (Ks : KS) (Lo Wi : Nat → Int32) (a b : Nat) (hab : a ≤ b) (hb : b < 64) (hn : n ≤ 20) : MI lau G 4 yX8_sumOf cX8_sumOf 5 (some .int) [.ref (ad 0), .int (nI a), .int (nI b)] (wM ad G (snp T n mo) Hs Xt Tw Qs Ks Lo Wi) (fun u : Nat → Int32 => wM ad G (snp T n mo) Hs Xt Tw Qs Ks u Wi) (fun r u => r = (sm T n mo a (b + 1 - a))) := by
  refine mi_of (by decide +kernel) (Nat.le_of_ble_eq_true rfl) ?_
  intro p e s m args below meth c A Q F hr hlk hQ
  refine v_st (w' := wM ad G (snp T n mo) Hs Xt Tw Qs Ks Lo Wi) (pc' := 0) (st' := []) rfl rfl rfl [0, 1, 2] (lv' := [(0, .ref (ad 0)), (1, .int (nI a)), (2, .int (nI b))]) rfl ?_
  refine v_aload_n F dX8_sumOf_0 0 rfl rfl ?_
  refine v_cVVF F cs_RX8_168 dX8_sumOf_1 0 (ci := 8) rfl rfl (m_X8_lowers lau G ad T n mo Hs Xt Tw Qs Ks Lo Wi (by omega)) (by decide) rfl rfl (Nat.le_of_ble_eq_true rfl) ⟨Nat.zero_le _, Nat.zero_le _⟩ (fun u2 w3 => ?_)
  refine v_iconst (v := nI 0) F dX8_sumOf_4 (by decide) ?_
  refine v_istore_n (lv' := [(3, .int (nI 0)), (0, .ref (ad 0)), (1, .int (nI a)), (2, .int (nI b))]) F dX8_sumOf_5 3 rfl (by decide) rfl ?_
  refine v_iload_n F dX8_sumOf_6 1 rfl rfl ?_
  refine v_istore (lv' := [(4, .int (nI a)), (3, .int (nI 0)), (0, .ref (ad 0)), (1, .int (nI a)), (2, .int (nI b))]) F dX8_sumOf_7 (by decide) rfl ?_
  have L9 : ∀ (k_ : Nat) (k : Nat) (sv : Int32), b + 1 - (a + k) < k_ → (a + k ≤ b + 1) → (sv = sm T n mo a k) → V p lau e (RM 4) s m args below meth c 5 G A Q (wM ad G (snp T n mo) Hs Xt Tw Qs Ks u2 Wi) 0 0 9 [(4, .int (nI (a + k))), (3, .int sv), (0, .ref (ad 0)), (1, .int (nI a)), (2, .int (nI b))] [] := by
    intro k_
    induction k_ with
    | zero => exact fun k sv hk_ hk hs => absurd hk_ (Nat.not_lt_zero _)
    | succ k_ ih9 =>
      intro k sv hk_9 hk hs
      refine v_iload F dX8_sumOf_9 rfl ?_
      refine v_iload_n F dX8_sumOf_11 2 rfl rfl ?_
      refine v_icmp_gt F 52 dX8_sumOf_12 (by decide) (fun c4 => ?_) (fun c4 => ?_)
      · replace c4 := nT (a := (a + k)) (b := b) (by omega) (by omega) c4
        refine v_iload_n F dX8_sumOf_52 3 rfl rfl ?_
        exact v_iret F hr hlk hQ dX8_sumOf_53 (u2) rfl (by rw [hs, show b + 1 - a = k by omega])
      · replace c4 := nTn (a := (a + k)) (b := b) (by omega) (by omega) c4
        refine v_iload_n F dX8_sumOf_15 3 rfl rfl ?_
        refine v_aload_n F dX8_sumOf_16 0 rfl rfl ?_
        refine v_get (v := .ref (ad 7)) F inlX8 (ci := 8) rfl 13 (by decide) rfl wF_RX8_28 dX8_sumOf_17 0 rfl rfl ?_
        refine v_iload F dX8_sumOf_20 rfl ?_
        refine v_ialdN F dX8_sumOf_22 7 rfl (a + k) rfl (by omega) (by decide) (u2 (a + k)) rfl ?_
        refine v_topi ((plo T n mo (a + k))) (w3 _ (by omega)) ?_
        rcases hg : lb T (a + k) mo (-1) n with _ | g
        · refine v_topi (-1) (plo_n hg) ?_
          refine v_iconst (v := (-1)) F dX8_sumOf_23 (by decide) ?_
          refine v_icmp_ne F 31 dX8_sumOf_24 (by decide) (fun h => absurd h (by decide)) (fun _ => ?_)
          refine v_iconst (v := nI 0) F dX8_sumOf_27 (by decide) ?_
          refine v_goto F 44 dX8_sumOf_28 (by decide) ?_
          refine v_iadd F dX8_sumOf_44 ?_
          refine v_istore_n (lv' := [(3, .int (sv + nI 0)), (4, .int (nI (a + k))), (0, .ref (ad 0)), (1, .int (nI a)), (2, .int (nI b))]) F dX8_sumOf_45 3 rfl (by decide) rfl ?_
          refine v_iinc (lv' := [(4, .int (nI ((a + k) + 1))), (3, .int (sv + nI 0)), (0, .ref (ad 0)), (1, .int (nI a)), (2, .int (nI b))]) F (nI ((a + k) + 1)) dX8_sumOf_46 rfl (nI_add (a + k) 1) (by decide) rfl ?_
          refine v_goto F 9 dX8_sumOf_49 (by decide) ?_
          refine v_st (w' := wM ad G (snp T n mo) Hs Xt Tw Qs Ks u2 Wi) (pc' := 9) (st' := []) rfl rfl rfl [0, 1, 2, 3, 4] (lv' := [(4, .int (nI ((a + k) + 1))), (3, .int (sv + nI 0)), (0, .ref (ad 0)), (1, .int (nI a)), (2, .int (nI b))]) rfl ?_
          exact ih9 (k + 1) (sv + nI 0) (by omega) (by omega) (by first | (rw [sm_n hg, hs, add0]; done) | (rw [sm_s hg, hs]; done))
        · have hgl := lb_lt _ _ _ _ _ _ hg
          refine v_topi (nI g) (plo_s hg) ?_
          refine v_iconst (v := (-1)) F dX8_sumOf_23 (by decide) ?_
          refine v_icmp_ne F 31 dX8_sumOf_24 (by decide) (fun c5 => ?_) (fun c5 => ?_)
          · refine v_aload_n F dX8_sumOf_31 0 rfl rfl ?_
            refine v_aload_n F dX8_sumOf_32 0 rfl rfl ?_
            refine v_get (v := .ref (ad 7)) F inlX8 (ci := 8) rfl 13 (by decide) rfl wF_RX8_28 dX8_sumOf_33 0 rfl rfl ?_
            refine v_iload F dX8_sumOf_36 rfl ?_
            refine v_ialdN F dX8_sumOf_38 7 rfl (a + k) rfl (by omega) (by decide) (u2 (a + k)) rfl ?_
            refine v_topi (nI g) ((w3 _ (by omega)).trans (plo_s hg)) ?_
            refine v_iload F dX8_sumOf_39 rfl ?_
            refine v_cVIF F cs_RX8_54 dX8_sumOf_41 0 (ci := 8) rfl rfl (m_X8_at lau G ad T n mo Hs Xt Tw Qs Ks u2 Wi g (a + k) (by omega)) (by decide) rfl rfl (Nat.le_of_ble_eq_true rfl) ⟨Nat.zero_le _, Nat.zero_le _⟩ (fun r6 u7 w8 => ?_)
            subst w8
            refine v_iadd F dX8_sumOf_44 ?_
            refine v_istore_n (lv' := [(3, .int (sv + (pVal T g (a + k)))), (4, .int (nI (a + k))), (0, .ref (ad 0)), (1, .int (nI a)), (2, .int (nI b))]) F dX8_sumOf_45 3 rfl (by decide) rfl ?_
            refine v_iinc (lv' := [(4, .int (nI ((a + k) + 1))), (3, .int (sv + (pVal T g (a + k)))), (0, .ref (ad 0)), (1, .int (nI a)), (2, .int (nI b))]) F (nI ((a + k) + 1)) dX8_sumOf_46 rfl (nI_add (a + k) 1) (by decide) rfl ?_
            refine v_goto F 9 dX8_sumOf_49 (by decide) ?_
            refine v_st (w' := wM ad G (snp T n mo) Hs Xt Tw Qs Ks u2 Wi) (pc' := 9) (st' := []) rfl rfl rfl [0, 1, 2, 3, 4] (lv' := [(4, .int (nI ((a + k) + 1))), (3, .int (sv + (pVal T g (a + k)))), (0, .ref (ad 0)), (1, .int (nI a)), (2, .int (nI b))]) rfl ?_
            exact ih9 (k + 1) (sv + (pVal T g (a + k))) (by omega) (by omega) (by first | (rw [sm_n hg, hs, add0]; done) | (rw [sm_s hg, hs]; done))
          · exact absurd c5 (nI_ne1 (by omega))
  refine v_st (w' := wM ad G (snp T n mo) Hs Xt Tw Qs Ks u2 Wi) (pc' := 9) (st' := []) rfl rfl rfl [0, 1, 2, 3, 4] (lv' := [(4, .int (nI a)), (3, .int (nI 0)), (0, .ref (ad 0)), (1, .int (nI a)), (2, .int (nI b))]) rfl ?_
  exact L9 _ 0 (nI 0) (Nat.lt_succ_self _) (by omega) (rfl)
set_option maxHeartbeats 400000 in
set_option maxRecDepth 100000 in
theorem m_X8_living (lau : Launch) (G : GT) (ad : Nat → Nat) (T : Nat → Int32) (n mo : Nat) (Hs : HT) (Xt : XT) (Tw : Nat) (Qs : QT) (Ks : KS) (Lo Wi : Nat → Int32) (hn : n ≤ 20) : MI lau G 1 yX8_living cX8_living 3 (some .int) [.ref (ad 0)] (wM ad G (snp T n mo) Hs Xt Tw Qs Ks Lo Wi) (fun u : Unit => wM ad G (snp T n mo) Hs Xt Tw Qs Ks Lo Wi) (fun r u => r = nI (lvc T mo n)) := by
  refine mi_of (by decide +kernel) (Nat.le_of_ble_eq_true rfl) ?_
  intro p e s m args below meth c A Q F hr hlk hQ
  refine v_st (w' := wM ad G (snp T n mo) Hs Xt Tw Qs Ks Lo Wi) (pc' := 0) (st' := []) rfl rfl rfl [0] (lv' := [(0, .ref (ad 0))]) rfl ?_
  refine v_iconst (v := nI 0) F dX8_living_0 (by decide) ?_
  refine v_istore_n (lv' := [(1, .int (nI 0)), (0, .ref (ad 0))]) F dX8_living_1 1 rfl (by decide) rfl ?_
  refine v_iconst (v := nI 0) F dX8_living_2 (by decide) ?_
  refine v_istore_n (lv' := [(2, .int (nI 0)), (1, .int (nI 0)), (0, .ref (ad 0))]) F dX8_living_3 2 rfl (by decide) rfl ?_
  have L4 : ∀ (k_ : Nat) (i : Nat) (k : Nat), n - i < k_ → (i ≤ n) → (k = lvc T mo i) → V p lau e (RM 1) s m args below meth c 3 G A Q (wM ad G (snp T n mo) Hs Xt Tw Qs Ks Lo Wi) 0 0 4 [(2, .int (nI i)), (1, .int (nI k)), (0, .ref (ad 0))] [] := by
    intro k_
    induction k_ with
    | zero => exact fun i k hk_ hi hk => absurd hk_ (Nat.not_lt_zero _)
    | succ k_ ih4 =>
      intro i k hk_4 hi hk
      refine v_iload_n F dX8_living_4 2 rfl rfl ?_
      refine v_aload_n F dX8_living_5 0 rfl rfl ?_
      refine v_get (v := .ref (ad 1)) F inlX8 (ci := 8) rfl 0 (by decide) rfl wF_RX8_7 dX8_living_6 0 rfl rfl ?_
      refine v_iconst (v := nI 1) F dX8_living_9 (by decide) ?_
      refine v_ialdN F dX8_living_10 1 rfl 1 rfl (by omega) (by decide) ((snp T n mo) 1) rfl ?_
      refine v_topi (nI n) rfl ?_
      refine v_icmp_ge F 52 dX8_living_11 (by decide) (fun c1 => ?_) (fun c1 => ?_)
      · replace c1 := nG (a := i) (b := n) (by omega) (by omega) c1
        refine v_iload_n F dX8_living_52 1 rfl rfl ?_
        exact v_iret F hr hlk hQ dX8_living_53 (()) rfl (by rw [hk, show i = n by omega])
      · replace c1 := nGn (a := i) (b := n) (by omega) (by omega) c1
        refine v_iload_n F dX8_living_14 1 rfl rfl ?_
        refine v_aload_n F dX8_living_15 0 rfl rfl ?_
        refine v_get (v := .ref (ad 1)) F inlX8 (ci := 8) rfl 0 (by decide) rfl wF_RX8_7 dX8_living_16 0 rfl rfl ?_
        refine v_iconst (v := nI 0) F dX8_living_19 (by decide) ?_
        refine v_ialdN F dX8_living_20 1 rfl 0 rfl (by omega) (by decide) ((snp T n mo) 0) rfl ?_
        refine v_topi (nI mo) rfl ?_
        refine v_aload_n F dX8_living_21 0 rfl rfl ?_
        refine v_iload_n F dX8_living_22 2 rfl rfl ?_
        refine v_iconst (v := nI 4) F dX8_living_23 (by decide) ?_
        refine v_cVIF F cs_RX8_50 dX8_living_24 0 (ci := 8) rfl rfl (m_X8_of lau G ad T n mo Hs Xt Tw Qs Ks Lo Wi i 4 (by omega) (by omega)) (by decide) rfl rfl (Nat.le_of_ble_eq_true rfl) ⟨Nat.zero_le _, Nat.zero_le _⟩ (fun r2 u3 w4 => ?_)
        subst w4
        refine v_aload_n F dX8_living_27 0 rfl rfl ?_
        refine v_iload_n F dX8_living_28 2 rfl rfl ?_
        refine v_iconst (v := nI 5) F dX8_living_29 (by decide) ?_
        refine v_cVIF F cs_RX8_50 dX8_living_30 0 (ci := 8) rfl rfl (m_X8_of lau G ad T n mo Hs Xt Tw Qs Ks Lo Wi i 5 (by omega) (by omega)) (by decide) rfl rfl (Nat.le_of_ble_eq_true rfl) ⟨Nat.zero_le _, Nat.zero_le _⟩ (fun r5 u6 w7 => ?_)
        subst w7
        refine v_cSIE F cs_RX8_39 dX8_living_33 (m_X8_in lau G (nI mo) (T ((i * 6) + 4)) (T ((i * 6) + 5)) ) (by decide) rfl rfl (Nat.le_of_ble_eq_true rfl) ⟨Nat.zero_le _, Nat.zero_le _⟩ (fun r8 u9 w10 => ?_)
        subst w10
        refine v_if_eq F 43 dX8_living_36 (by decide) (fun c11 => ?_) (fun c11 => ?_)
        · replace c11 := bI_f c11
          refine v_iconst (v := nI 0) F dX8_living_43 (by decide) ?_
          refine v_iadd F dX8_living_44 ?_
          refine v_topi (nI (k + 0)) (nI_add k 0) ?_
          refine v_istore_n (lv' := [(1, .int (nI (k + 0))), (2, .int (nI i)), (0, .ref (ad 0))]) F dX8_living_45 1 rfl (by decide) rfl ?_
          refine v_iinc (lv' := [(2, .int (nI (i + 1))), (1, .int (nI (k + 0))), (0, .ref (ad 0))]) F (nI (i + 1)) dX8_living_46 rfl (nI_add i 1) (by decide) rfl ?_
          refine v_goto F 4 dX8_living_49 (by decide) ?_
          refine v_st (w' := wM ad G (snp T n mo) Hs Xt Tw Qs Ks Lo Wi) (pc' := 4) (st' := []) rfl rfl rfl [0, 1, 2] (lv' := [(2, .int (nI (i + 1))), (1, .int (nI (k + 0))), (0, .ref (ad 0))]) rfl ?_
          exact ih4 (i + 1) (k + 0) (by omega) (by omega) (by simp [lvc, lvB, *])
        · replace c11 := bI_t c11
          refine v_iconst (v := nI 1) F dX8_living_39 (by decide) ?_
          refine v_goto F 44 dX8_living_40 (by decide) ?_
          refine v_iadd F dX8_living_44 ?_
          refine v_topi (nI (k + 1)) (nI_add k 1) ?_
          refine v_istore_n (lv' := [(1, .int (nI (k + 1))), (2, .int (nI i)), (0, .ref (ad 0))]) F dX8_living_45 1 rfl (by decide) rfl ?_
          refine v_iinc (lv' := [(2, .int (nI (i + 1))), (1, .int (nI (k + 1))), (0, .ref (ad 0))]) F (nI (i + 1)) dX8_living_46 rfl (nI_add i 1) (by decide) rfl ?_
          refine v_goto F 4 dX8_living_49 (by decide) ?_
          refine v_st (w' := wM ad G (snp T n mo) Hs Xt Tw Qs Ks Lo Wi) (pc' := 4) (st' := []) rfl rfl rfl [0, 1, 2] (lv' := [(2, .int (nI (i + 1))), (1, .int (nI (k + 1))), (0, .ref (ad 0))]) rfl ?_
          exact ih4 (i + 1) (k + 1) (by omega) (by omega) (by simp [lvc, lvB, *])
  refine v_st (w' := wM ad G (snp T n mo) Hs Xt Tw Qs Ks Lo Wi) (pc' := 4) (st' := []) rfl rfl rfl [0, 1, 2] (lv' := [(2, .int (nI 0)), (1, .int (nI 0)), (0, .ref (ad 0))]) rfl ?_
  exact L4 _ 0 0 (Nat.lt_succ_self _) (by omega) (rfl)
set_option maxHeartbeats 400000 in
set_option maxRecDepth 100000 in
theorem m_X8_bare (lau : Launch) (G : GT) (ad : Nat → Nat) (T : Nat → Int32) (n mo : Nat) (Hs : HT) (Xt : XT) (Tw : Nat) (Qs : QT) (Ks : KS) (Lo Wi : Nat → Int32) (hn : n ≤ 20) : MI lau G 4 yX8_bare cX8_bare 3 (some .int) [.ref (ad 0)] (wM ad G (snp T n mo) Hs Xt Tw Qs Ks Lo Wi) (fun u : Nat → Int32 => wM ad G (snp T n mo) Hs Xt Tw Qs Ks u Wi) (fun r u => r = nI (plc T n mo (-1) 64)) := by
  refine mi_of (by decide +kernel) (Nat.le_of_ble_eq_true rfl) ?_
  intro p e s m args below meth c A Q F hr hlk hQ
  refine v_st (w' := wM ad G (snp T n mo) Hs Xt Tw Qs Ks Lo Wi) (pc' := 0) (st' := []) rfl rfl rfl [0] (lv' := [(0, .ref (ad 0))]) rfl ?_
  refine v_aload_n F dX8_bare_0 0 rfl rfl ?_
  refine v_cVVF F cs_RX8_168 dX8_bare_1 0 (ci := 8) rfl rfl (m_X8_lowers lau G ad T n mo Hs Xt Tw Qs Ks Lo Wi (by omega)) (by decide) rfl rfl (Nat.le_of_ble_eq_true rfl) ⟨Nat.zero_le _, Nat.zero_le _⟩ (fun u2 w3 => ?_)
  refine v_iconst (v := nI 0) F dX8_bare_4 (by decide) ?_
  refine v_istore_n (lv' := [(1, .int (nI 0)), (0, .ref (ad 0))]) F dX8_bare_5 1 rfl (by decide) rfl ?_
  refine v_iconst (v := nI 0) F dX8_bare_6 (by decide) ?_
  refine v_istore_n (lv' := [(2, .int (nI 0)), (1, .int (nI 0)), (0, .ref (ad 0))]) F dX8_bare_7 2 rfl (by decide) rfl ?_
  have L8 : ∀ (k_ : Nat) (i : Nat) (k : Nat), 64 - i < k_ → (i ≤ 64) → (k = plc T n mo (-1) i) → V p lau e (RM 4) s m args below meth c 3 G A Q (wM ad G (snp T n mo) Hs Xt Tw Qs Ks u2 Wi) 0 0 8 [(2, .int (nI i)), (1, .int (nI k)), (0, .ref (ad 0))] [] := by
    intro k_
    induction k_ with
    | zero => exact fun i k hk_ hi hk => absurd hk_ (Nat.not_lt_zero _)
    | succ k_ ih8 =>
      intro i k hk_8 hi hk
      refine v_iload_n F dX8_bare_8 2 rfl rfl ?_
      refine v_bipush (v := nI 64) F dX8_bare_9 (by decide) ?_
      refine v_icmp_ge F 38 dX8_bare_11 (by decide) (fun c4 => ?_) (fun c4 => ?_)
      · replace c4 := nG (a := i) (b := 64) (by omega) (by decide) c4
        refine v_iload_n F dX8_bare_38 1 rfl rfl ?_
        exact v_iret F hr hlk hQ dX8_bare_39 (u2) rfl (by rw [hk, show i = 64 by omega])
      · replace c4 := nGn (a := i) (b := 64) (by omega) (by decide) c4
        refine v_iload_n F dX8_bare_14 1 rfl rfl ?_
        refine v_aload_n F dX8_bare_15 0 rfl rfl ?_
        refine v_get (v := .ref (ad 7)) F inlX8 (ci := 8) rfl 13 (by decide) rfl wF_RX8_28 dX8_bare_16 0 rfl rfl ?_
        refine v_iload_n F dX8_bare_19 2 rfl rfl ?_
        refine v_ialdN F dX8_bare_20 7 rfl i rfl (by omega) (by decide) (u2 i) rfl ?_
        refine v_topi ((plo T n mo (i))) (w3 _ (by omega)) ?_
        rcases hg : lb T (i) mo (-1) n with _ | g
        · refine v_topi (-1) (plo_n hg) ?_
          refine v_iconst (v := (-1)) F dX8_bare_21 (by decide) ?_
          refine v_icmp_ne F 29 dX8_bare_22 (by decide) (fun h => absurd h (by decide)) (fun _ => ?_)
          refine v_iconst (v := nI 1) F dX8_bare_25 (by decide) ?_
          refine v_goto F 30 dX8_bare_26 (by decide) ?_
          refine v_iadd F dX8_bare_30 ?_
          refine v_topi (nI (k + 1)) (nI_add k 1) ?_
          refine v_istore_n (lv' := [(1, .int (nI (k + 1))), (2, .int (nI i)), (0, .ref (ad 0))]) F dX8_bare_31 1 rfl (by decide) rfl ?_
          refine v_iinc (lv' := [(2, .int (nI (i + 1))), (1, .int (nI (k + 1))), (0, .ref (ad 0))]) F (nI (i + 1)) dX8_bare_32 rfl (nI_add i 1) (by decide) rfl ?_
          refine v_goto F 8 dX8_bare_35 (by decide) ?_
          refine v_st (w' := wM ad G (snp T n mo) Hs Xt Tw Qs Ks u2 Wi) (pc' := 8) (st' := []) rfl rfl rfl [0, 1, 2] (lv' := [(2, .int (nI (i + 1))), (1, .int (nI (k + 1))), (0, .ref (ad 0))]) rfl ?_
          exact ih8 (i + 1) (k + 1) (by omega) (by omega) (by first | (rw [plc_n hg, hk]; done) | (rw [plc_s (by omega) hg, hk] <;> rfl))
        · have hgl := lb_lt _ _ _ _ _ _ hg
          refine v_topi (nI g) (plo_s hg) ?_
          refine v_iconst (v := (-1)) F dX8_bare_21 (by decide) ?_
          refine v_icmp_ne F 29 dX8_bare_22 (by decide) (fun c5 => ?_) (fun c5 => ?_)
          · refine v_iconst (v := nI 0) F dX8_bare_29 (by decide) ?_
            refine v_iadd F dX8_bare_30 ?_
            refine v_topi (nI (k + 0)) (nI_add k 0) ?_
            refine v_istore_n (lv' := [(1, .int (nI (k + 0))), (2, .int (nI i)), (0, .ref (ad 0))]) F dX8_bare_31 1 rfl (by decide) rfl ?_
            refine v_iinc (lv' := [(2, .int (nI (i + 1))), (1, .int (nI (k + 0))), (0, .ref (ad 0))]) F (nI (i + 1)) dX8_bare_32 rfl (nI_add i 1) (by decide) rfl ?_
            refine v_goto F 8 dX8_bare_35 (by decide) ?_
            refine v_st (w' := wM ad G (snp T n mo) Hs Xt Tw Qs Ks u2 Wi) (pc' := 8) (st' := []) rfl rfl rfl [0, 1, 2] (lv' := [(2, .int (nI (i + 1))), (1, .int (nI (k + 0))), (0, .ref (ad 0))]) rfl ?_
            exact ih8 (i + 1) (k + 0) (by omega) (by omega) (by first | (rw [plc_n hg, hk]; done) | (rw [plc_s (by omega) hg, hk] <;> rfl))
          · exact absurd c5 (nI_ne1 (by omega))
  refine v_st (w' := wM ad G (snp T n mo) Hs Xt Tw Qs Ks u2 Wi) (pc' := 8) (st' := []) rfl rfl rfl [0, 1, 2] (lv' := [(2, .int (nI 0)), (1, .int (nI 0)), (0, .ref (ad 0))]) rfl ?_
  exact L8 _ 0 0 (Nat.lt_succ_self _) (by omega) (rfl)
set_option maxHeartbeats 400000 in
set_option maxRecDepth 100000 in
theorem m_X8_placesOf (lau : Launch) (G : GT) (ad : Nat → Nat) (T : Nat → Int32) (n mo : Nat) (Hs : HT) (Xt : XT) (Tw : Nat) (Qs : QT) (Ks : KS) (Lo Wi : Nat → Int32) (sl off : Int32) (hn : n ≤ 20) : MI lau G 4 yX8_placesOf cX8_placesOf 5 (some .int) [.ref (ad 0), .int sl, .int off] (wM ad G (snp T n mo) Hs Xt Tw Qs Ks Lo Wi) (fun u : Nat → Int32 => wM ad G (snp T n mo) Hs Xt Tw Qs Ks u Wi) (fun r u => r = nI (ifa T n mo sl off 64)) := by
  refine mi_of (by decide +kernel) (Nat.le_of_ble_eq_true rfl) ?_
  intro p e s m args below meth c A Q F hr hlk hQ
  refine v_st (w' := wM ad G (snp T n mo) Hs Xt Tw Qs Ks Lo Wi) (pc' := 0) (st' := []) rfl rfl rfl [0, 1, 2] (lv' := [(0, .ref (ad 0)), (1, .int sl), (2, .int off)]) rfl ?_
  refine v_aload_n F dX8_placesOf_0 0 rfl rfl ?_
  refine v_cVVF F cs_RX8_168 dX8_placesOf_1 0 (ci := 8) rfl rfl (m_X8_lowers lau G ad T n mo Hs Xt Tw Qs Ks Lo Wi (by omega)) (by decide) rfl rfl (Nat.le_of_ble_eq_true rfl) ⟨Nat.zero_le _, Nat.zero_le _⟩ (fun u2 w3 => ?_)
  refine v_iconst (v := nI 0) F dX8_placesOf_4 (by decide) ?_
  refine v_istore_n (lv' := [(3, .int (nI 0)), (0, .ref (ad 0)), (1, .int sl), (2, .int off)]) F dX8_placesOf_5 3 rfl (by decide) rfl ?_
  refine v_iconst (v := nI 0) F dX8_placesOf_6 (by decide) ?_
  refine v_istore (lv' := [(4, .int (nI 0)), (3, .int (nI 0)), (0, .ref (ad 0)), (1, .int sl), (2, .int off)]) F dX8_placesOf_7 (by decide) rfl ?_
  have L9 : ∀ (k_ : Nat) (x : Nat) (k : Nat), 64 - x < k_ → (x ≤ 64) → (k = ifa T n mo sl off x) → V p lau e (RM 4) s m args below meth c 5 G A Q (wM ad G (snp T n mo) Hs Xt Tw Qs Ks u2 Wi) 0 0 9 [(4, .int (nI x)), (3, .int (nI k)), (0, .ref (ad 0)), (1, .int sl), (2, .int off)] [] := by
    intro k_
    induction k_ with
    | zero => exact fun x k hk_ hx hs => absurd hk_ (Nat.not_lt_zero _)
    | succ k_ ih9 =>
      intro x k hk_9 hx hs
      refine v_iload F dX8_placesOf_9 rfl ?_
      refine v_bipush (v := nI 64) F dX8_placesOf_11 (by decide) ?_
      refine v_icmp_ge F 63 dX8_placesOf_13 (by decide) (fun c4 => ?_) (fun c4 => ?_)
      · replace c4 := nG (a := x) (b := 64) (by omega) (by decide) c4
        refine v_iload_n F dX8_placesOf_63 3 rfl rfl ?_
        exact v_iret F hr hlk hQ dX8_placesOf_64 (u2) rfl (by rw [hs, show x = 64 by omega])
      · replace c4 := nGn (a := x) (b := 64) (by omega) (by decide) c4
        refine v_iload_n F dX8_placesOf_16 3 rfl rfl ?_
        refine v_aload_n F dX8_placesOf_17 0 rfl rfl ?_
        refine v_get (v := .ref (ad 7)) F inlX8 (ci := 8) rfl 13 (by decide) rfl wF_RX8_28 dX8_placesOf_18 0 rfl rfl ?_
        refine v_iload F dX8_placesOf_21 rfl ?_
        refine v_ialdN F dX8_placesOf_23 7 rfl x rfl (by omega) (by decide) (u2 x) rfl ?_
        refine v_topi ((plo T n mo (x))) (w3 _ (by omega)) ?_
        rcases hg : lb T (x) mo (-1) n with _ | g
        · refine v_topi (-1) (plo_n hg) ?_
          refine v_iconst (v := (-1)) F dX8_placesOf_24 (by decide) ?_
          refine v_icmp_eq F 50 dX8_placesOf_25 (by decide) (fun _ => ?_) (fun h => absurd h (by decide))
          refine v_iconst (v := nI 1) F dX8_placesOf_50 (by decide) ?_
          refine v_goto F 55 dX8_placesOf_51 (by decide) ?_
          refine v_iadd F dX8_placesOf_55 ?_
          refine v_topi (nI (k + 1)) (nI_add k 1) ?_
          refine v_istore_n (lv' := [(3, .int (nI (k + 1))), (4, .int (nI x)), (0, .ref (ad 0)), (1, .int sl), (2, .int off)]) F dX8_placesOf_56 3 rfl (by decide) rfl ?_
          refine v_iinc (lv' := [(4, .int (nI (x + 1))), (3, .int (nI (k + 1))), (0, .ref (ad 0)), (1, .int sl), (2, .int off)]) F (nI (x + 1)) dX8_placesOf_57 rfl (nI_add x 1) (by decide) rfl ?_
          refine v_goto F 9 dX8_placesOf_60 (by decide) ?_
          refine v_st (w' := wM ad G (snp T n mo) Hs Xt Tw Qs Ks u2 Wi) (pc' := 9) (st' := []) rfl rfl rfl [0, 1, 2, 3, 4] (lv' := [(4, .int (nI (x + 1))), (3, .int (nI (k + 1))), (0, .ref (ad 0)), (1, .int sl), (2, .int off)]) rfl ?_
          exact ih9 (x + 1) (k + 1) (by omega) (by omega) (by first | (rw [ifa_n hg, hs]; done) | (rw [ifa_1 hg hge, hs] <;> rfl) | (rw [ifa_2 hg hge, hs]; done))
        · have hgl := lb_lt _ _ _ _ _ _ hg
          refine v_topi (nI g) (plo_s hg) ?_
          refine v_iconst (v := (-1)) F dX8_placesOf_24 (by decide) ?_
          refine v_icmp_eq F 50 dX8_placesOf_25 (by decide) (fun c5 => ?_) (fun c5 => ?_)
          · exact absurd c5 (nI_ne1 (by omega))
          · refine v_iload_n F dX8_placesOf_28 1 rfl rfl ?_
            refine v_iload F dX8_placesOf_29 rfl ?_
            refine v_imul F dX8_placesOf_31 ?_
            refine v_iload_n F dX8_placesOf_32 2 rfl rfl ?_
            refine v_iadd F dX8_placesOf_33 ?_
            refine v_aload_n F dX8_placesOf_34 0 rfl rfl ?_
            refine v_aload_n F dX8_placesOf_35 0 rfl rfl ?_
            refine v_get (v := .ref (ad 7)) F inlX8 (ci := 8) rfl 13 (by decide) rfl wF_RX8_28 dX8_placesOf_36 0 rfl rfl ?_
            refine v_iload F dX8_placesOf_39 rfl ?_
            refine v_ialdN F dX8_placesOf_41 7 rfl x rfl (by omega) (by decide) (u2 x) rfl ?_
            refine v_topi (nI g) ((w3 _ (by omega)).trans (plo_s hg)) ?_
            refine v_iload F dX8_placesOf_42 rfl ?_
            refine v_cVIF F cs_RX8_54 dX8_placesOf_44 0 (ci := 8) rfl rfl (m_X8_at lau G ad T n mo Hs Xt Tw Qs Ks u2 Wi g x (by omega)) (by decide) rfl rfl (Nat.le_of_ble_eq_true rfl) ⟨Nat.zero_le _, Nat.zero_le _⟩ (fun r6 u7 w8 => ?_)
            subst w8
            refine v_icmp_ge F 54 dX8_placesOf_47 (by decide) (fun hge => ?_) (fun hge => ?_)
            · refine v_iconst (v := nI 0) F dX8_placesOf_54 (by decide) ?_
              refine v_iadd F dX8_placesOf_55 ?_
              refine v_topi (nI (k + 0)) (nI_add k 0) ?_
              refine v_istore_n (lv' := [(3, .int (nI (k + 0))), (4, .int (nI x)), (0, .ref (ad 0)), (1, .int sl), (2, .int off)]) F dX8_placesOf_56 3 rfl (by decide) rfl ?_
              refine v_iinc (lv' := [(4, .int (nI (x + 1))), (3, .int (nI (k + 0))), (0, .ref (ad 0)), (1, .int sl), (2, .int off)]) F (nI (x + 1)) dX8_placesOf_57 rfl (nI_add x 1) (by decide) rfl ?_
              refine v_goto F 9 dX8_placesOf_60 (by decide) ?_
              refine v_st (w' := wM ad G (snp T n mo) Hs Xt Tw Qs Ks u2 Wi) (pc' := 9) (st' := []) rfl rfl rfl [0, 1, 2, 3, 4] (lv' := [(4, .int (nI (x + 1))), (3, .int (nI (k + 0))), (0, .ref (ad 0)), (1, .int sl), (2, .int off)]) rfl ?_
              exact ih9 (x + 1) (k + 0) (by omega) (by omega) (by first | (rw [ifa_n hg, hs]; done) | (rw [ifa_1 hg hge, hs] <;> rfl) | (rw [ifa_2 hg hge, hs]; done))
            · refine v_iconst (v := nI 1) F dX8_placesOf_50 (by decide) ?_
              refine v_goto F 55 dX8_placesOf_51 (by decide) ?_
              refine v_iadd F dX8_placesOf_55 ?_
              refine v_topi (nI (k + 1)) (nI_add k 1) ?_
              refine v_istore_n (lv' := [(3, .int (nI (k + 1))), (4, .int (nI x)), (0, .ref (ad 0)), (1, .int sl), (2, .int off)]) F dX8_placesOf_56 3 rfl (by decide) rfl ?_
              refine v_iinc (lv' := [(4, .int (nI (x + 1))), (3, .int (nI (k + 1))), (0, .ref (ad 0)), (1, .int sl), (2, .int off)]) F (nI (x + 1)) dX8_placesOf_57 rfl (nI_add x 1) (by decide) rfl ?_
              refine v_goto F 9 dX8_placesOf_60 (by decide) ?_
              refine v_st (w' := wM ad G (snp T n mo) Hs Xt Tw Qs Ks u2 Wi) (pc' := 9) (st' := []) rfl rfl rfl [0, 1, 2, 3, 4] (lv' := [(4, .int (nI (x + 1))), (3, .int (nI (k + 1))), (0, .ref (ad 0)), (1, .int sl), (2, .int off)]) rfl ?_
              exact ih9 (x + 1) (k + 1) (by omega) (by omega) (by first | (rw [ifa_n hg, hs]; done) | (rw [ifa_1 hg hge, hs] <;> rfl) | (rw [ifa_2 hg hge, hs]; done))
  refine v_st (w' := wM ad G (snp T n mo) Hs Xt Tw Qs Ks u2 Wi) (pc' := 9) (st' := []) rfl rfl rfl [0, 1, 2, 3, 4] (lv' := [(4, .int (nI 0)), (3, .int (nI 0)), (0, .ref (ad 0)), (1, .int sl), (2, .int off)]) rfl ?_
  exact L9 _ 0 0 (Nat.lt_succ_self _) (by omega) (rfl)
set_option maxHeartbeats 400000 in
set_option maxRecDepth 100000 in
theorem m_X8_highestOf (lau : Launch) (G : GT) (ad : Nat → Nat) (T : Nat → Int32) (n mo : Nat) (Hs : HT) (Xt : XT) (Tw : Nat) (Qs : QT) (Ks : KS) (Lo Wi : Nat → Int32) (sl : Int32) (hn : n ≤ 20) : MI lau G 4 yX8_highestOf cX8_highestOf 5 (some .int) [.ref (ad 0), .int sl] (wM ad G (snp T n mo) Hs Xt Tw Qs Ks Lo Wi) (fun u : Nat → Int32 => wM ad G (snp T n mo) Hs Xt Tw Qs Ks u Wi) (fun r u => r = (hiC T n mo sl)) := by
  refine mi_of (by decide +kernel) (Nat.le_of_ble_eq_true rfl) ?_
  intro p e s m args below meth c A Q F hr hlk hQ
  refine v_st (w' := wM ad G (snp T n mo) Hs Xt Tw Qs Ks Lo Wi) (pc' := 0) (st' := []) rfl rfl rfl [0, 1] (lv' := [(0, .ref (ad 0)), (1, .int sl)]) rfl ?_
  refine v_aload_n F dX8_highestOf_0 0 rfl rfl ?_
  refine v_cVVF F cs_RX8_168 dX8_highestOf_1 0 (ci := 8) rfl rfl (m_X8_lowers lau G ad T n mo Hs Xt Tw Qs Ks Lo Wi (by omega)) (by decide) rfl rfl (Nat.le_of_ble_eq_true rfl) ⟨Nat.zero_le _, Nat.zero_le _⟩ (fun u2 w3 => ?_)
  refine v_sipush (v := (-10000)) F dX8_highestOf_4 (by decide) ?_
  refine v_istore_n (lv' := [(2, .int (-10000)), (0, .ref (ad 0)), (1, .int sl)]) F dX8_highestOf_7 2 rfl (by decide) rfl ?_
  refine v_iconst (v := nI 0) F dX8_highestOf_8 (by decide) ?_
  refine v_istore_n (lv' := [(3, .int (nI 0)), (2, .int (-10000)), (0, .ref (ad 0)), (1, .int sl)]) F dX8_highestOf_9 3 rfl (by decide) rfl ?_
  have L10 : ∀ (k_ : Nat) (x : Nat) (k : Int32), 64 - x < k_ → (x ≤ 64) → (k = hiM T n mo sl x) → V p lau e (RM 4) s m args below meth c 5 G A Q (wM ad G (snp T n mo) Hs Xt Tw Qs Ks u2 Wi) 0 0 10 [(3, .int (nI x)), (2, .int k), (0, .ref (ad 0)), (1, .int sl)] [] := by
    intro k_
    induction k_ with
    | zero => exact fun x k hk_ hx hs => absurd hk_ (Nat.not_lt_zero _)
    | succ k_ ih10 =>
      intro x k hk_10 hx hs
      refine v_iload_n F dX8_highestOf_10 3 rfl rfl ?_
      refine v_bipush (v := nI 64) F dX8_highestOf_11 (by decide) ?_
      refine v_icmp_ge F 70 dX8_highestOf_13 (by decide) (fun c4 => ?_) (fun c4 => ?_)
      · replace c4 := nG (a := x) (b := 64) (by omega) (by decide) c4
        refine v_iload_n F dX8_highestOf_70 2 rfl rfl ?_
        refine v_sipush (v := nI 9999) F dX8_highestOf_71 (by decide) ?_
        refine v_icmp_le F 83 dX8_highestOf_74 (by decide) (fun hend => ?_) (fun hend => ?_)
        · refine v_iload_n F dX8_highestOf_83 2 rfl rfl ?_
          exact v_iret F hr hlk hQ dX8_highestOf_84 (u2) rfl (by have he := hiM_end (hs.trans (congrArg _ (show x = 64 by omega))); first | exact he.1 hend | exact he.2 hend)
        · refine v_sipush (v := nI 9999) F dX8_highestOf_77 (by decide) ?_
          refine v_goto F 84 dX8_highestOf_80 (by decide) ?_
          exact v_iret F hr hlk hQ dX8_highestOf_84 (u2) rfl (by have he := hiM_end (hs.trans (congrArg _ (show x = 64 by omega))); first | exact he.1 hend | exact he.2 hend)
      · replace c4 := nGn (a := x) (b := 64) (by omega) (by decide) c4
        refine v_aload_n F dX8_highestOf_16 0 rfl rfl ?_
        refine v_get (v := .ref (ad 7)) F inlX8 (ci := 8) rfl 13 (by decide) rfl wF_RX8_28 dX8_highestOf_17 0 rfl rfl ?_
        refine v_iload_n F dX8_highestOf_20 3 rfl rfl ?_
        refine v_ialdN F dX8_highestOf_21 7 rfl x rfl (by omega) (by decide) (u2 x) rfl ?_
        refine v_topi ((plo T n mo (x))) (w3 _ (by omega)) ?_
        rcases hg : lb T (x) mo (-1) n with _ | g
        · refine v_topi (-1) (plo_n hg) ?_
          refine v_iconst (v := (-1)) F dX8_highestOf_22 (by decide) ?_
          refine v_icmp_ne F 32 dX8_highestOf_23 (by decide) (fun h => absurd h (by decide)) (fun _ => ?_)
          refine v_sipush (v := nI 9999) F dX8_highestOf_26 (by decide) ?_
          refine v_goto F 49 dX8_highestOf_29 (by decide) ?_
          refine v_istore (lv' := [(4, .int (nI 9999)), (3, .int (nI x)), (2, .int k), (0, .ref (ad 0)), (1, .int sl)]) F dX8_highestOf_49 (by decide) rfl ?_
          refine v_iload F dX8_highestOf_51 rfl ?_
          refine v_iload_n F dX8_highestOf_53 2 rfl rfl ?_
          refine v_icmp_le F 62 dX8_highestOf_54 (by decide) (fun hge => ?_) (fun hge => ?_)
          · refine v_iload_n F dX8_highestOf_62 2 rfl rfl ?_
            refine v_istore_n (lv' := [(2, .int k), (4, .int (nI 9999)), (3, .int (nI x)), (0, .ref (ad 0)), (1, .int sl)]) F dX8_highestOf_63 2 rfl (by decide) rfl ?_
            refine v_iinc (lv' := [(3, .int (nI (x + 1))), (2, .int k), (4, .int (nI 9999)), (0, .ref (ad 0)), (1, .int sl)]) F (nI (x + 1)) dX8_highestOf_64 rfl (nI_add x 1) (by decide) rfl ?_
            refine v_goto F 10 dX8_highestOf_67 (by decide) ?_
            refine v_st (w' := wM ad G (snp T n mo) Hs Xt Tw Qs Ks u2 Wi) (pc' := 10) (st' := []) rfl rfl rfl [0, 1, 3, 4] (lv' := [(3, .int (nI (x + 1))), (2, .int k), (0, .ref (ad 0)), (1, .int sl)]) rfl ?_
            exact ih10 (x + 1) k (by omega) (by omega) (by first | (rw [hiM_n hg, ← hs, if_pos hge]; done) | (rw [hiM_n hg, ← hs, if_neg hge]; done) | (rw [hiM_s hg, ← hs, if_pos hge]; done) | (rw [hiM_s hg, ← hs, if_neg hge]; done))
          · refine v_iload F dX8_highestOf_57 rfl ?_
            refine v_goto F 63 dX8_highestOf_59 (by decide) ?_
            refine v_istore_n (lv' := [(2, .int (nI 9999)), (4, .int (nI 9999)), (3, .int (nI x)), (0, .ref (ad 0)), (1, .int sl)]) F dX8_highestOf_63 2 rfl (by decide) rfl ?_
            refine v_iinc (lv' := [(3, .int (nI (x + 1))), (2, .int (nI 9999)), (4, .int (nI 9999)), (0, .ref (ad 0)), (1, .int sl)]) F (nI (x + 1)) dX8_highestOf_64 rfl (nI_add x 1) (by decide) rfl ?_
            refine v_goto F 10 dX8_highestOf_67 (by decide) ?_
            refine v_st (w' := wM ad G (snp T n mo) Hs Xt Tw Qs Ks u2 Wi) (pc' := 10) (st' := []) rfl rfl rfl [0, 1, 3, 4] (lv' := [(3, .int (nI (x + 1))), (2, .int (nI 9999)), (0, .ref (ad 0)), (1, .int sl)]) rfl ?_
            exact ih10 (x + 1) (nI 9999) (by omega) (by omega) (by first | (rw [hiM_n hg, ← hs, if_pos hge]; done) | (rw [hiM_n hg, ← hs, if_neg hge]; done) | (rw [hiM_s hg, ← hs, if_pos hge]; done) | (rw [hiM_s hg, ← hs, if_neg hge]; done))
        · have hgl := lb_lt _ _ _ _ _ _ hg
          refine v_topi (nI g) (plo_s hg) ?_
          refine v_iconst (v := (-1)) F dX8_highestOf_22 (by decide) ?_
          refine v_icmp_ne F 32 dX8_highestOf_23 (by decide) (fun c5 => ?_) (fun c5 => ?_)
          · refine v_aload_n F dX8_highestOf_32 0 rfl rfl ?_
            refine v_aload_n F dX8_highestOf_33 0 rfl rfl ?_
            refine v_get (v := .ref (ad 7)) F inlX8 (ci := 8) rfl 13 (by decide) rfl wF_RX8_28 dX8_highestOf_34 0 rfl rfl ?_
            refine v_iload_n F dX8_highestOf_37 3 rfl rfl ?_
            refine v_ialdN F dX8_highestOf_38 7 rfl x rfl (by omega) (by decide) (u2 x) rfl ?_
            refine v_topi (nI g) ((w3 _ (by omega)).trans (plo_s hg)) ?_
            refine v_iload_n F dX8_highestOf_39 3 rfl rfl ?_
            refine v_cVIF F cs_RX8_54 dX8_highestOf_40 0 (ci := 8) rfl rfl (m_X8_at lau G ad T n mo Hs Xt Tw Qs Ks u2 Wi g x (by omega)) (by decide) rfl rfl (Nat.le_of_ble_eq_true rfl) ⟨Nat.zero_le _, Nat.zero_le _⟩ (fun r6 u7 w8 => ?_)
            subst w8
            refine v_iload_n F dX8_highestOf_43 1 rfl rfl ?_
            refine v_iload_n F dX8_highestOf_44 3 rfl rfl ?_
            refine v_imul F dX8_highestOf_45 ?_
            refine v_isub F dX8_highestOf_46 ?_
            refine v_iconst (v := nI 1) F dX8_highestOf_47 (by decide) ?_
            refine v_isub F dX8_highestOf_48 ?_
            refine v_istore (lv' := [(4, .int (((pVal T g x) - (sl * nI x)) - nI 1)), (3, .int (nI x)), (2, .int k), (0, .ref (ad 0)), (1, .int sl)]) F dX8_highestOf_49 (by decide) rfl ?_
            refine v_iload F dX8_highestOf_51 rfl ?_
            refine v_iload_n F dX8_highestOf_53 2 rfl rfl ?_
            refine v_icmp_le F 62 dX8_highestOf_54 (by decide) (fun hge => ?_) (fun hge => ?_)
            · refine v_iload_n F dX8_highestOf_62 2 rfl rfl ?_
              refine v_istore_n (lv' := [(2, .int k), (4, .int (((pVal T g x) - (sl * nI x)) - nI 1)), (3, .int (nI x)), (0, .ref (ad 0)), (1, .int sl)]) F dX8_highestOf_63 2 rfl (by decide) rfl ?_
              refine v_iinc (lv' := [(3, .int (nI (x + 1))), (2, .int k), (4, .int (((pVal T g x) - (sl * nI x)) - nI 1)), (0, .ref (ad 0)), (1, .int sl)]) F (nI (x + 1)) dX8_highestOf_64 rfl (nI_add x 1) (by decide) rfl ?_
              refine v_goto F 10 dX8_highestOf_67 (by decide) ?_
              refine v_st (w' := wM ad G (snp T n mo) Hs Xt Tw Qs Ks u2 Wi) (pc' := 10) (st' := []) rfl rfl rfl [0, 1, 3, 4] (lv' := [(3, .int (nI (x + 1))), (2, .int k), (0, .ref (ad 0)), (1, .int sl)]) rfl ?_
              exact ih10 (x + 1) k (by omega) (by omega) (by first | (rw [hiM_n hg, ← hs, if_pos hge]; done) | (rw [hiM_n hg, ← hs, if_neg hge]; done) | (rw [hiM_s hg, ← hs, if_pos hge]; done) | (rw [hiM_s hg, ← hs, if_neg hge]; done))
            · refine v_iload F dX8_highestOf_57 rfl ?_
              refine v_goto F 63 dX8_highestOf_59 (by decide) ?_
              refine v_istore_n (lv' := [(2, .int (((pVal T g x) - (sl * nI x)) - nI 1)), (4, .int (((pVal T g x) - (sl * nI x)) - nI 1)), (3, .int (nI x)), (0, .ref (ad 0)), (1, .int sl)]) F dX8_highestOf_63 2 rfl (by decide) rfl ?_
              refine v_iinc (lv' := [(3, .int (nI (x + 1))), (2, .int (((pVal T g x) - (sl * nI x)) - nI 1)), (4, .int (((pVal T g x) - (sl * nI x)) - nI 1)), (0, .ref (ad 0)), (1, .int sl)]) F (nI (x + 1)) dX8_highestOf_64 rfl (nI_add x 1) (by decide) rfl ?_
              refine v_goto F 10 dX8_highestOf_67 (by decide) ?_
              refine v_st (w' := wM ad G (snp T n mo) Hs Xt Tw Qs Ks u2 Wi) (pc' := 10) (st' := []) rfl rfl rfl [0, 1, 3, 4] (lv' := [(3, .int (nI (x + 1))), (2, .int (((pVal T g x) - (sl * nI x)) - nI 1)), (0, .ref (ad 0)), (1, .int sl)]) rfl ?_
              exact ih10 (x + 1) (((pVal T g x) - (sl * nI x)) - nI 1) (by omega) (by omega) (by first | (rw [hiM_n hg, ← hs, if_pos hge]; done) | (rw [hiM_n hg, ← hs, if_neg hge]; done) | (rw [hiM_s hg, ← hs, if_pos hge]; done) | (rw [hiM_s hg, ← hs, if_neg hge]; done))
          · exact absurd c5 (nI_ne1 (by omega))
  refine v_st (w' := wM ad G (snp T n mo) Hs Xt Tw Qs Ks u2 Wi) (pc' := 10) (st' := []) rfl rfl rfl [0, 1, 2, 3] (lv' := [(3, .int (nI 0)), (2, .int (-10000)), (0, .ref (ad 0)), (1, .int sl)]) rfl ?_
  exact L10 _ 0 (-10000) (Nat.lt_succ_self _) (by omega) (rfl)
set_option maxHeartbeats 400000 in
set_option maxRecDepth 100000 in
theorem m_X8_worthOf (lau : Launch) (G : GT) (ad : Nat → Nat) (T : Nat → Int32) (n mo : Nat) (Hs : HT) (Xt : XT) (Tw : Nat) (Qs : QT) (Ks : KS) (Lo Wi : Nat → Int32) (li : Nat) (hl : li < n) (hn : n ≤ 20) : MI lau G 4 yX8_worthOf cX8_worthOf 5 (some .int) [.ref (ad 0), .int (nI li)] (wM ad G (snp T n mo) Hs Xt Tw Qs Ks Lo Wi) (fun u : Nat → Int32 => wM ad G (snp T n mo) Hs Xt Tw Qs Ks u Wi) (fun r u => r = (woV T n mo li)) := by
  refine mi_of (by decide +kernel) (Nat.le_of_ble_eq_true rfl) ?_
  intro p e s m args below meth c A Q F hr hlk hQ
  refine v_st (w' := wM ad G (snp T n mo) Hs Xt Tw Qs Ks Lo Wi) (pc' := 0) (st' := []) rfl rfl rfl [0, 1] (lv' := [(0, .ref (ad 0)), (1, .int (nI li))]) rfl ?_
  refine v_aload_n F dX8_worthOf_0 0 rfl rfl ?_
  refine v_cVVF F cs_RX8_168 dX8_worthOf_1 0 (ci := 8) rfl rfl (m_X8_lowers lau G ad T n mo Hs Xt Tw Qs Ks Lo Wi (by omega)) (by decide) rfl rfl (Nat.le_of_ble_eq_true rfl) ⟨Nat.zero_le _, Nat.zero_le _⟩ (fun u2 w3 => ?_)
  refine v_iconst (v := nI 0) F dX8_worthOf_4 (by decide) ?_
  refine v_istore_n (lv' := [(2, .int (nI 0)), (0, .ref (ad 0)), (1, .int (nI li))]) F dX8_worthOf_5 2 rfl (by decide) rfl ?_
  refine v_iconst (v := nI 0) F dX8_worthOf_6 (by decide) ?_
  refine v_istore_n (lv' := [(3, .int (nI 0)), (2, .int (nI 0)), (0, .ref (ad 0)), (1, .int (nI li))]) F dX8_worthOf_7 3 rfl (by decide) rfl ?_
  have L8 : ∀ (k_ : Nat) (x : Nat) (k : Int32), 64 - x < k_ → (x ≤ 64) → (wo T n mo li x = some k) → V p lau e (RM 4) s m args below meth c 5 G A Q (wM ad G (snp T n mo) Hs Xt Tw Qs Ks u2 Wi) 0 0 8 [(3, .int (nI x)), (2, .int k), (0, .ref (ad 0)), (1, .int (nI li))] [] := by
    intro k_
    induction k_ with
    | zero => exact fun x k hk_ hx hs => absurd hk_ (Nat.not_lt_zero _)
    | succ k_ ih8 =>
      intro x k hk_8 hx hs
      refine v_iload_n F dX8_worthOf_8 3 rfl rfl ?_
      refine v_bipush (v := nI 64) F dX8_worthOf_9 (by decide) ?_
      refine v_icmp_ge F 69 dX8_worthOf_11 (by decide) (fun c4 => ?_) (fun c4 => ?_)
      · replace c4 := nG (a := x) (b := 64) (by omega) (by decide) c4
        refine v_iload_n F dX8_worthOf_69 2 rfl rfl ?_
        exact v_iret F hr hlk hQ dX8_worthOf_70 (u2) rfl (by exact woV_2 (by omega) hs)
      · replace c4 := nGn (a := x) (b := 64) (by omega) (by decide) c4
        refine v_aload_n F dX8_worthOf_14 0 rfl rfl ?_
        refine v_get (v := .ref (ad 7)) F inlX8 (ci := 8) rfl 13 (by decide) rfl wF_RX8_28 dX8_worthOf_15 0 rfl rfl ?_
        refine v_iload_n F dX8_worthOf_18 3 rfl rfl ?_
        refine v_ialdN F dX8_worthOf_19 7 rfl x rfl (by omega) (by decide) (u2 x) rfl ?_
        refine v_topi ((plo T n mo (x))) (w3 _ (by omega)) ?_
        refine v_iload_n F dX8_worthOf_20 1 rfl rfl ?_
        refine v_icmp_ne F 63 dX8_worthOf_21 (by decide) (fun hpl => ?_) (fun hpl => ?_)
        · refine v_iinc (lv' := [(3, .int (nI (x + 1))), (2, .int k), (0, .ref (ad 0)), (1, .int (nI li))]) F (nI (x + 1)) dX8_worthOf_63 rfl (nI_add x 1) (by decide) rfl ?_
          refine v_goto F 8 dX8_worthOf_66 (by decide) ?_
          refine v_st (w' := wM ad G (snp T n mo) Hs Xt Tw Qs Ks u2 Wi) (pc' := 8) (st' := []) rfl rfl rfl [0, 1, 2, 3] (lv' := [(3, .int (nI (x + 1))), (2, .int k), (0, .ref (ad 0)), (1, .int (nI li))]) rfl ?_
          exact ih8 (x + 1) k (by omega) (by omega) (by first | exact wo_a hs hpl | exact wo_b hs hpl hg)
        · refine v_aload_n F dX8_worthOf_24 0 rfl rfl ?_
          refine v_iload_n F dX8_worthOf_25 3 rfl rfl ?_
          refine v_aload_n F dX8_worthOf_26 0 rfl rfl ?_
          refine v_get (v := .ref (ad 1)) F inlX8 (ci := 8) rfl 0 (by decide) rfl wF_RX8_7 dX8_worthOf_27 0 rfl rfl ?_
          refine v_iconst (v := nI 0) F dX8_worthOf_30 (by decide) ?_
          refine v_ialdN F dX8_worthOf_31 1 rfl 0 rfl (by omega) (by decide) ((snp T n mo) 0) rfl ?_
          refine v_topi (nI mo) rfl ?_
          refine v_iload_n F dX8_worthOf_32 1 rfl rfl ?_
          refine v_cVIF F cs_RX8_60 dX8_worthOf_33 0 (ci := 8) rfl rfl (m_X8_lowestBut lau G ad T n mo Hs Xt Tw Qs Ks u2 Wi x mo (nI li) (by omega)) (by decide) rfl rfl (Nat.le_of_ble_eq_true rfl) ⟨Nat.zero_le _, Nat.zero_le _⟩ (fun r5 u6 w7 => ?_)
          subst w7
          rcases hg : lb T x mo (nI li) n with _ | g
          · refine v_topi (-1) rfl ?_
            refine v_istore (lv' := [(4, .int (-1)), (3, .int (nI x)), (2, .int k), (0, .ref (ad 0)), (1, .int (nI li))]) F dX8_worthOf_36 (by decide) rfl ?_
            refine v_iload F dX8_worthOf_38 rfl ?_
            refine v_iconst (v := (-1)) F dX8_worthOf_40 (by decide) ?_
            refine v_icmp_ne F 46 dX8_worthOf_41 (by decide) (fun h => absurd h (by decide)) (fun _ => ?_)
            refine v_iconst (v := (-1)) F dX8_worthOf_44 (by decide) ?_
            exact v_iret F hr hlk hQ dX8_worthOf_45 (u2) rfl (by exact woV_1 (by omega) hs hpl hg)
          · have hgl := lb_lt _ _ _ _ _ _ hg
            refine v_topi (nI g) rfl ?_
            refine v_istore (lv' := [(4, .int (nI g)), (3, .int (nI x)), (2, .int k), (0, .ref (ad 0)), (1, .int (nI li))]) F dX8_worthOf_36 (by decide) rfl ?_
            refine v_iload F dX8_worthOf_38 rfl ?_
            refine v_iconst (v := (-1)) F dX8_worthOf_40 (by decide) ?_
            refine v_icmp_ne F 46 dX8_worthOf_41 (by decide) (fun c8 => ?_) (fun c8 => ?_)
            · refine v_iload_n F dX8_worthOf_46 2 rfl rfl ?_
              refine v_aload_n F dX8_worthOf_47 0 rfl rfl ?_
              refine v_iload F dX8_worthOf_48 rfl ?_
              refine v_iload_n F dX8_worthOf_50 3 rfl rfl ?_
              refine v_cVIF F cs_RX8_54 dX8_worthOf_51 0 (ci := 8) rfl rfl (m_X8_at lau G ad T n mo Hs Xt Tw Qs Ks u2 Wi g x (by omega)) (by decide) rfl rfl (Nat.le_of_ble_eq_true rfl) ⟨Nat.zero_le _, Nat.zero_le _⟩ (fun r9 u10 w11 => ?_)
              subst w11
              refine v_aload_n F dX8_worthOf_54 0 rfl rfl ?_
              refine v_iload_n F dX8_worthOf_55 1 rfl rfl ?_
              refine v_iload_n F dX8_worthOf_56 3 rfl rfl ?_
              refine v_cVIF F cs_RX8_54 dX8_worthOf_57 0 (ci := 8) rfl rfl (m_X8_at lau G ad T n mo Hs Xt Tw Qs Ks u2 Wi li x (by omega)) (by decide) rfl rfl (Nat.le_of_ble_eq_true rfl) ⟨Nat.zero_le _, Nat.zero_le _⟩ (fun r12 u13 w14 => ?_)
              subst w14
              refine v_isub F dX8_worthOf_60 ?_
              refine v_iadd F dX8_worthOf_61 ?_
              refine v_istore_n (lv' := [(2, .int (k + ((pVal T g x) - (pVal T li x)))), (4, .int (nI g)), (3, .int (nI x)), (0, .ref (ad 0)), (1, .int (nI li))]) F dX8_worthOf_62 2 rfl (by decide) rfl ?_
              refine v_iinc (lv' := [(3, .int (nI (x + 1))), (2, .int (k + ((pVal T g x) - (pVal T li x)))), (4, .int (nI g)), (0, .ref (ad 0)), (1, .int (nI li))]) F (nI (x + 1)) dX8_worthOf_63 rfl (nI_add x 1) (by decide) rfl ?_
              refine v_goto F 8 dX8_worthOf_66 (by decide) ?_
              refine v_st (w' := wM ad G (snp T n mo) Hs Xt Tw Qs Ks u2 Wi) (pc' := 8) (st' := []) rfl rfl rfl [0, 1, 3, 4] (lv' := [(3, .int (nI (x + 1))), (2, .int (k + ((pVal T g x) - (pVal T li x)))), (0, .ref (ad 0)), (1, .int (nI li))]) rfl ?_
              exact ih8 (x + 1) (k + ((pVal T g x) - (pVal T li x))) (by omega) (by omega) (by first | exact wo_a hs hpl | exact wo_b hs hpl hg)
            · exact absurd c8 (nI_ne1 (by omega))
  refine v_st (w' := wM ad G (snp T n mo) Hs Xt Tw Qs Ks u2 Wi) (pc' := 8) (st' := []) rfl rfl rfl [0, 1, 2, 3] (lv' := [(3, .int (nI 0)), (2, .int (nI 0)), (0, .ref (ad 0)), (1, .int (nI li))]) rfl ?_
  exact L8 _ 0 (nI 0) (Nat.lt_succ_self _) (by omega) (rfl)
set_option maxHeartbeats 400000 in
set_option maxRecDepth 100000 in
theorem m_X8_changeAt (lau : Launch) (G : GT) (ad : Nat → Nat) (T : Nat → Int32) (n mo : Nat) (Hs : HT) (Xt : XT) (Tw : Nat) (Qs : QT) (Ks : KS) (Lo Wi : Nat → Int32) (x : Nat) (hmo : mo < 100) (hn : n ≤ 20) : MI lau G 3 yX8_changeAt cX8_changeAt 4 (some .int) [.ref (ad 0), .int (nI x)] (wM ad G (snp T n mo) Hs Xt Tw Qs Ks Lo Wi) (fun u : Unit => wM ad G (snp T n mo) Hs Xt Tw Qs Ks Lo Wi) (fun r u => r = (chA T n mo x)) := by
  refine mi_of (by decide +kernel) (Nat.le_of_ble_eq_true rfl) ?_
  intro p e s m args below meth c A Q F hr hlk hQ
  refine v_st (w' := wM ad G (snp T n mo) Hs Xt Tw Qs Ks Lo Wi) (pc' := 0) (st' := []) rfl rfl rfl [0, 1] (lv' := [(0, .ref (ad 0)), (1, .int (nI x))]) rfl ?_
  refine v_aload_n F dX8_changeAt_0 0 rfl rfl ?_
  refine v_iload_n F dX8_changeAt_1 1 rfl rfl ?_
  refine v_aload_n F dX8_changeAt_2 0 rfl rfl ?_
  refine v_get (v := .ref (ad 1)) F inlX8 (ci := 8) rfl 0 (by decide) rfl wF_RX8_7 dX8_changeAt_3 0 rfl rfl ?_
  refine v_iconst (v := nI 0) F dX8_changeAt_6 (by decide) ?_
  refine v_ialdN F dX8_changeAt_7 1 rfl 0 rfl (by omega) (by decide) ((snp T n mo) 0) rfl ?_
  refine v_topi (nI mo) rfl ?_
  refine v_iconst (v := (-1)) F dX8_changeAt_8 (by decide) ?_
  refine v_cVIF F cs_RX8_60 dX8_changeAt_9 0 (ci := 8) rfl rfl (m_X8_lowestBut lau G ad T n mo Hs Xt Tw Qs Ks Lo Wi x mo (-1) (by omega)) (by decide) rfl rfl (Nat.le_of_ble_eq_true rfl) ⟨Nat.zero_le _, Nat.zero_le _⟩ (fun r1 u2 w3 => ?_)
  subst w3
  refine v_istore_n (lv' := [(2, .int (oI (lb T x mo ((-1)) n))), (0, .ref (ad 0)), (1, .int (nI x))]) F dX8_changeAt_12 2 rfl (by decide) rfl ?_
  refine v_aload_n F dX8_changeAt_13 0 rfl rfl ?_
  refine v_get (v := .ref (ad 1)) F inlX8 (ci := 8) rfl 0 (by decide) rfl wF_RX8_7 dX8_changeAt_14 0 rfl rfl ?_
  refine v_iconst (v := nI 0) F dX8_changeAt_17 (by decide) ?_
  refine v_ialdN F dX8_changeAt_18 1 rfl 0 rfl (by omega) (by decide) ((snp T n mo) 0) rfl ?_
  refine v_topi (nI mo) rfl ?_
  refine v_iconst (v := nI 1) F dX8_changeAt_19 (by decide) ?_
  refine v_iadd F dX8_changeAt_20 ?_
  refine v_topi (nI (mo + 1)) (nI_add mo 1) ?_
  refine v_istore_n (lv' := [(3, .int (nI (mo + 1))), (2, .int (oI (lb T x mo ((-1)) n))), (0, .ref (ad 0)), (1, .int (nI x))]) F dX8_changeAt_21 3 rfl (by decide) rfl ?_
  have L22 : ∀ (k_ : Nat) (t : Nat), 100 - t < k_ → (mo < t) → (t ≤ 100) → (∀ j, j < t → chP T n mo x j = false) → V p lau e (RM 3) s m args below meth c 4 G A Q (wM ad G (snp T n mo) Hs Xt Tw Qs Ks Lo Wi) 0 0 22 [(3, .int (nI t)), (2, .int (oI (lb T x mo ((-1)) n))), (0, .ref (ad 0)), (1, .int (nI x))] [] := by
    intro k_
    induction k_ with
    | zero => exact fun t hk_ ht ht2 hno => absurd hk_ (Nat.not_lt_zero _)
    | succ k_ ih22 =>
      intro t hk_22 ht ht2 hno
      refine v_iload_n F dX8_changeAt_22 3 rfl rfl ?_
      refine v_bipush (v := nI 100) F dX8_changeAt_23 (by decide) ?_
      refine v_icmp_ge F 47 dX8_changeAt_25 (by decide) (fun c4 => ?_) (fun c4 => ?_)
      · replace c4 := nG (a := t) (b := 100) (by omega) (by decide) c4
        refine v_iconst (v := (-1)) F dX8_changeAt_47 (by decide) ?_
        exact v_iret F hr hlk hQ dX8_changeAt_48 (()) rfl (by exact orN_n (by omega) hno)
      · replace c4 := nGn (a := t) (b := 100) (by omega) (by decide) c4
        refine v_aload_n F dX8_changeAt_28 0 rfl rfl ?_
        refine v_iload_n F dX8_changeAt_29 1 rfl rfl ?_
        refine v_iload_n F dX8_changeAt_30 3 rfl rfl ?_
        refine v_iconst (v := (-1)) F dX8_changeAt_31 (by decide) ?_
        refine v_cVIF F cs_RX8_60 dX8_changeAt_32 0 (ci := 8) rfl rfl (m_X8_lowestBut lau G ad T n mo Hs Xt Tw Qs Ks Lo Wi x t (-1) (by omega)) (by decide) rfl rfl (Nat.le_of_ble_eq_true rfl) ⟨Nat.zero_le _, Nat.zero_le _⟩ (fun r5 u6 w7 => ?_)
        subst w7
        refine v_iload_n F dX8_changeAt_35 2 rfl rfl ?_
        refine v_icmp_eq F 41 dX8_changeAt_36 (by decide) (fun hch => ?_) (fun hch => ?_)
        · refine v_iinc (lv' := [(3, .int (nI (t + 1))), (2, .int (oI (lb T x mo ((-1)) n))), (0, .ref (ad 0)), (1, .int (nI x))]) F (nI (t + 1)) dX8_changeAt_41 rfl (nI_add t 1) (by decide) rfl ?_
          refine v_goto F 22 dX8_changeAt_44 (by decide) ?_
          refine v_st (w' := wM ad G (snp T n mo) Hs Xt Tw Qs Ks Lo Wi) (pc' := 22) (st' := []) rfl rfl rfl [0, 1, 2, 3] (lv' := [(3, .int (nI (t + 1))), (2, .int (oI (lb T x mo ((-1)) n))), (0, .ref (ad 0)), (1, .int (nI x))]) rfl ?_
          exact ih22 (t + 1) (by omega) (by omega) (by omega) (lf_s hno (by simp [chP, plo, *]))
        · refine v_iload_n F dX8_changeAt_39 3 rfl rfl ?_
          exact v_iret F hr hlk hQ dX8_changeAt_40 (()) rfl (by exact orN_y (by omega) (by simp [chP, plo, *]) hno)
  refine v_st (w' := wM ad G (snp T n mo) Hs Xt Tw Qs Ks Lo Wi) (pc' := 22) (st' := []) rfl rfl rfl [0, 1, 2, 3] (lv' := [(3, .int (nI (mo + 1))), (2, .int (oI (lb T x mo ((-1)) n))), (0, .ref (ad 0)), (1, .int (nI x))]) rfl ?_
  exact L22 _ (mo + 1) (Nat.lt_succ_self _) (by omega) (by omega) (fun j hj => by simp [chP]; omega)
set_option maxHeartbeats 400000 in
set_option maxRecDepth 100000 in
theorem m_X8_meetOf (lau : Launch) (G : GT) (ad : Nat → Nat) (T : Nat → Int32) (n mo : Nat) (Hs : HT) (Xt : XT) (Tw : Nat) (Qs : QT) (Ks : KS) (Lo Wi : Nat → Int32) (a b : Nat) (ha : a < n) (hb : b < n) (hn : n ≤ 20) : MI lau G 3 yX8_meetOf cX8_meetOf 5 (some .int) [.ref (ad 0), .int (nI a), .int (nI b)] (wM ad G (snp T n mo) Hs Xt Tw Qs Ks Lo Wi) (fun u : Unit => wM ad G (snp T n mo) Hs Xt Tw Qs Ks Lo Wi) (fun r u => r = (meV T a b)) := by
  refine mi_of (by decide +kernel) (Nat.le_of_ble_eq_true rfl) ?_
  intro p e s m args below meth c A Q F hr hlk hQ
  refine v_st (w' := wM ad G (snp T n mo) Hs Xt Tw Qs Ks Lo Wi) (pc' := 0) (st' := []) rfl rfl rfl [0, 1, 2] (lv' := [(0, .ref (ad 0)), (1, .int (nI a)), (2, .int (nI b))]) rfl ?_
  refine v_iconst (v := nI 0) F dX8_meetOf_0 (by decide) ?_
  refine v_istore_n (lv' := [(3, .int (nI 0)), (0, .ref (ad 0)), (1, .int (nI a)), (2, .int (nI b))]) F dX8_meetOf_1 3 rfl (by decide) rfl ?_
  have L2 : ∀ (k_ : Nat) (x : Nat), 64 - x < k_ → (x ≤ 64) → (∀ j, j < x → meP T a b j = false) → V p lau e (RM 3) s m args below meth c 5 G A Q (wM ad G (snp T n mo) Hs Xt Tw Qs Ks Lo Wi) 0 0 2 [(3, .int (nI x)), (0, .ref (ad 0)), (1, .int (nI a)), (2, .int (nI b))] [] := by
    intro k_
    induction k_ with
    | zero => exact fun x hk_ hx hno => absurd hk_ (Nat.not_lt_zero _)
    | succ k_ ih2 =>
      intro x hk_2 hx hno
      refine v_iload_n F dX8_meetOf_2 3 rfl rfl ?_
      refine v_bipush (v := nI 64) F dX8_meetOf_3 (by decide) ?_
      refine v_icmp_ge F 76 dX8_meetOf_5 (by decide) (fun c1 => ?_) (fun c1 => ?_)
      · replace c1 := nG (a := x) (b := 64) (by omega) (by decide) c1
        refine v_iconst (v := (-1)) F dX8_meetOf_76 (by decide) ?_
        exact v_iret F hr hlk hQ dX8_meetOf_77 (()) rfl (by exact orN_n (by omega) hno)
      · replace c1 := nGn (a := x) (b := 64) (by omega) (by decide) c1
        refine v_iload_n F dX8_meetOf_8 3 rfl rfl ?_
        refine v_aload_n F dX8_meetOf_9 0 rfl rfl ?_
        refine v_iload_n F dX8_meetOf_10 1 rfl rfl ?_
        refine v_iconst (v := nI 2) F dX8_meetOf_11 (by decide) ?_
        refine v_cVIF F cs_RX8_50 dX8_meetOf_12 0 (ci := 8) rfl rfl (m_X8_of lau G ad T n mo Hs Xt Tw Qs Ks Lo Wi a 2 (by omega) (by omega)) (by decide) rfl rfl (Nat.le_of_ble_eq_true rfl) ⟨Nat.zero_le _, Nat.zero_le _⟩ (fun r2 u3 w4 => ?_)
        subst w4
        refine v_aload_n F dX8_meetOf_15 0 rfl rfl ?_
        refine v_iload_n F dX8_meetOf_16 1 rfl rfl ?_
        refine v_iconst (v := nI 3) F dX8_meetOf_17 (by decide) ?_
        refine v_cVIF F cs_RX8_50 dX8_meetOf_18 0 (ci := 8) rfl rfl (m_X8_of lau G ad T n mo Hs Xt Tw Qs Ks Lo Wi a 3 (by omega) (by omega)) (by decide) rfl rfl (Nat.le_of_ble_eq_true rfl) ⟨Nat.zero_le _, Nat.zero_le _⟩ (fun r5 u6 w7 => ?_)
        subst w7
        refine v_cSIE F cs_RX8_39 dX8_meetOf_21 (m_X8_in lau G (nI x) (T ((a * 6) + 2)) (T ((a * 6) + 3)) ) (by decide) rfl rfl (Nat.le_of_ble_eq_true rfl) ⟨Nat.zero_le _, Nat.zero_le _⟩ (fun r8 u9 w10 => ?_)
        subst w10
        refine v_if_eq F 50 dX8_meetOf_24 (by decide) (fun c11 => ?_) (fun c11 => ?_)
        · replace c11 := bI_f c11
          refine v_iconst (v := nI 0) F dX8_meetOf_50 (by decide) ?_
          refine v_istore (lv' := [(4, .int (nI 0)), (3, .int (nI x)), (0, .ref (ad 0)), (1, .int (nI a)), (2, .int (nI b))]) F dX8_meetOf_51 (by decide) rfl ?_
          refine v_iload F dX8_meetOf_53 rfl ?_
          refine v_if_eq F 70 dX8_meetOf_55 (by decide) (fun _ => ?_) (fun h => absurd h (by decide))
          refine v_iinc (lv' := [(3, .int (nI (x + 1))), (4, .int (nI 0)), (0, .ref (ad 0)), (1, .int (nI a)), (2, .int (nI b))]) F (nI (x + 1)) dX8_meetOf_70 rfl (nI_add x 1) (by decide) rfl ?_
          refine v_goto F 2 dX8_meetOf_73 (by decide) ?_
          refine v_st (w' := wM ad G (snp T n mo) Hs Xt Tw Qs Ks Lo Wi) (pc' := 2) (st' := []) rfl rfl rfl [0, 2, 3, 4] (lv' := [(3, .int (nI (x + 1))), (0, .ref (ad 0)), (1, .int (nI a)), (2, .int (nI b))]) rfl ?_
          exact ih2 (x + 1) (by omega) (by omega) (lf_s hno (by simp [meP, spB, *]))
        · replace c11 := bI_t c11
          refine v_iload_n F dX8_meetOf_27 3 rfl rfl ?_
          refine v_aload_n F dX8_meetOf_28 0 rfl rfl ?_
          refine v_iload_n F dX8_meetOf_29 2 rfl rfl ?_
          refine v_iconst (v := nI 2) F dX8_meetOf_30 (by decide) ?_
          refine v_cVIF F cs_RX8_50 dX8_meetOf_31 0 (ci := 8) rfl rfl (m_X8_of lau G ad T n mo Hs Xt Tw Qs Ks Lo Wi b 2 (by omega) (by omega)) (by decide) rfl rfl (Nat.le_of_ble_eq_true rfl) ⟨Nat.zero_le _, Nat.zero_le _⟩ (fun r12 u13 w14 => ?_)
          subst w14
          refine v_aload_n F dX8_meetOf_34 0 rfl rfl ?_
          refine v_iload_n F dX8_meetOf_35 2 rfl rfl ?_
          refine v_iconst (v := nI 3) F dX8_meetOf_36 (by decide) ?_
          refine v_cVIF F cs_RX8_50 dX8_meetOf_37 0 (ci := 8) rfl rfl (m_X8_of lau G ad T n mo Hs Xt Tw Qs Ks Lo Wi b 3 (by omega) (by omega)) (by decide) rfl rfl (Nat.le_of_ble_eq_true rfl) ⟨Nat.zero_le _, Nat.zero_le _⟩ (fun r15 u16 w17 => ?_)
          subst w17
          refine v_cSIE F cs_RX8_39 dX8_meetOf_40 (m_X8_in lau G (nI x) (T ((b * 6) + 2)) (T ((b * 6) + 3)) ) (by decide) rfl rfl (Nat.le_of_ble_eq_true rfl) ⟨Nat.zero_le _, Nat.zero_le _⟩ (fun r18 u19 w20 => ?_)
          subst w20
          refine v_if_eq F 50 dX8_meetOf_43 (by decide) (fun c21 => ?_) (fun c21 => ?_)
          · replace c21 := bI_f c21
            refine v_iconst (v := nI 0) F dX8_meetOf_50 (by decide) ?_
            refine v_istore (lv' := [(4, .int (nI 0)), (3, .int (nI x)), (0, .ref (ad 0)), (1, .int (nI a)), (2, .int (nI b))]) F dX8_meetOf_51 (by decide) rfl ?_
            refine v_iload F dX8_meetOf_53 rfl ?_
            refine v_if_eq F 70 dX8_meetOf_55 (by decide) (fun _ => ?_) (fun h => absurd h (by decide))
            refine v_iinc (lv' := [(3, .int (nI (x + 1))), (4, .int (nI 0)), (0, .ref (ad 0)), (1, .int (nI a)), (2, .int (nI b))]) F (nI (x + 1)) dX8_meetOf_70 rfl (nI_add x 1) (by decide) rfl ?_
            refine v_goto F 2 dX8_meetOf_73 (by decide) ?_
            refine v_st (w' := wM ad G (snp T n mo) Hs Xt Tw Qs Ks Lo Wi) (pc' := 2) (st' := []) rfl rfl rfl [0, 2, 3, 4] (lv' := [(3, .int (nI (x + 1))), (0, .ref (ad 0)), (1, .int (nI a)), (2, .int (nI b))]) rfl ?_
            exact ih2 (x + 1) (by omega) (by omega) (lf_s hno (by simp [meP, spB, *]))
          · replace c21 := bI_t c21
            refine v_iconst (v := nI 1) F dX8_meetOf_46 (by decide) ?_
            refine v_goto F 51 dX8_meetOf_47 (by decide) ?_
            refine v_istore (lv' := [(4, .int (nI 1)), (3, .int (nI x)), (0, .ref (ad 0)), (1, .int (nI a)), (2, .int (nI b))]) F dX8_meetOf_51 (by decide) rfl ?_
            refine v_iload F dX8_meetOf_53 rfl ?_
            refine v_if_eq F 70 dX8_meetOf_55 (by decide) (fun h => absurd h (by decide)) (fun _ => ?_)
            refine v_aload_n F dX8_meetOf_58 0 rfl rfl ?_
            refine v_iload_n F dX8_meetOf_59 2 rfl rfl ?_
            refine v_iload_n F dX8_meetOf_60 1 rfl rfl ?_
            refine v_iload_n F dX8_meetOf_61 3 rfl rfl ?_
            refine v_cVIF F cs_RX8_111 dX8_meetOf_62 0 (ci := 8) rfl rfl (m_X8_isLower lau G ad T n mo Hs Xt Tw Qs Ks Lo Wi b a x (by omega) (by omega)) (by decide) rfl rfl (Nat.le_of_ble_eq_true rfl) ⟨Nat.zero_le _, Nat.zero_le _⟩ (fun r22 u23 w24 => ?_)
            subst w24
            refine v_if_eq F 70 dX8_meetOf_65 (by decide) (fun c25 => ?_) (fun c25 => ?_)
            · replace c25 := bI_f c25
              refine v_iinc (lv' := [(3, .int (nI (x + 1))), (4, .int (nI 1)), (0, .ref (ad 0)), (1, .int (nI a)), (2, .int (nI b))]) F (nI (x + 1)) dX8_meetOf_70 rfl (nI_add x 1) (by decide) rfl ?_
              refine v_goto F 2 dX8_meetOf_73 (by decide) ?_
              refine v_st (w' := wM ad G (snp T n mo) Hs Xt Tw Qs Ks Lo Wi) (pc' := 2) (st' := []) rfl rfl rfl [0, 2, 3, 4] (lv' := [(3, .int (nI (x + 1))), (0, .ref (ad 0)), (1, .int (nI a)), (2, .int (nI b))]) rfl ?_
              exact ih2 (x + 1) (by omega) (by omega) (lf_s hno (by simp [meP, spB, *]))
            · replace c25 := bI_t c25
              refine v_iload_n F dX8_meetOf_68 3 rfl rfl ?_
              exact v_iret F hr hlk hQ dX8_meetOf_69 (()) rfl (by exact orN_y (by omega) (by simp [meP, spB, *]) hno)
  refine v_st (w' := wM ad G (snp T n mo) Hs Xt Tw Qs Ks Lo Wi) (pc' := 2) (st' := []) rfl rfl rfl [0, 1, 2, 3] (lv' := [(3, .int (nI 0)), (0, .ref (ad 0)), (1, .int (nI a)), (2, .int (nI b))]) rfl ?_
  exact L2 _ 0 (Nat.lt_succ_self _) (by omega) (fun j hj => absurd hj (Nat.not_lt_zero j))
theorem cs_RX8_186 : CSV RX8 186 RX8 yX8_sumOf cX8_sumOf 5 (some .int) 2 := ⟨wC_yX8_sumOf, wM_RX8_186, wIm_yX8_sumOf, wSe_yX8_sumOf, wI_RX8, by decide +kernel, by decide⟩
theorem cs_RX8_192 : CSV RX8 192 RX8 yX8_bare cX8_bare 3 (some .int) 0 := ⟨wC_yX8_bare, wM_RX8_192, wIm_yX8_bare, wSe_yX8_bare, wI_RX8, by decide +kernel, by decide⟩
set_option maxHeartbeats 400000 in
set_option maxRecDepth 100000 in
theorem m_X8_meanOf (lau : Launch) (G : GT) (ad : Nat → Nat) (T : Nat → Int32) (n mo : Nat) (Hs : HT) (Xt : XT) (Tw : Nat) (Qs : QT) (Ks : KS) (Lo Wi : Nat → Int32) (hn : n ≤ 20) : MD lau G 5 yX8_meanOf cX8_meanOf 2 (some .double) [.ref (ad 0)] (wM ad G (snp T n mo) Hs Xt Tw Qs Ks Lo Wi) (fun u : Nat → Int32 => wM ad G (snp T n mo) Hs Xt Tw Qs Ks u Wi) (fun r u => r = meanV T n mo) := by
  have hpl := plc_le T n mo (-1) 64
  refine md_of (by decide +kernel) (Nat.le_of_ble_eq_true rfl) ?_
  intro p e s m args below meth c A Q F hr hlk hQ
  refine v_st (w' := wM ad G (snp T n mo) Hs Xt Tw Qs Ks Lo Wi) (pc' := 0) (st' := []) rfl rfl rfl [0] (lv' := [(0, .ref (ad 0))]) rfl ?_
  refine v_bipush (v := nI 64) F dX8_meanOf_0 (by decide) ?_
  refine v_aload_n F dX8_meanOf_2 0 rfl rfl ?_
  refine v_cVIF F cs_RX8_192 dX8_meanOf_3 0 (ci := 8) rfl rfl (m_X8_bare lau G ad T n mo Hs Xt Tw Qs Ks Lo Wi (by omega)) (by decide) rfl rfl (Nat.le_of_ble_eq_true rfl) ⟨Nat.zero_le _, Nat.zero_le _⟩ (fun r1 u2 w3 => ?_)
  refine v_topi (nI (plc T n mo (-1) 64)) w3 ?_
  refine v_isub F dX8_meanOf_6 ?_
  refine v_topi (nI (64 - plc T n mo (-1) 64)) (pk_sub hpl) ?_
  refine v_istore_n (lv' := [(1, .int (nI (64 - plc T n mo (-1) 64))), (0, .ref (ad 0))]) F dX8_meanOf_7 1 rfl (by decide) rfl ?_
  refine v_iload_n F dX8_meanOf_8 1 rfl rfl ?_
  refine v_if_ne F 16 dX8_meanOf_9 (by decide) (fun c4 => ?_) (fun c4 => ?_)
  · replace c4 := nEn (a := (64 - plc T n mo (-1) 64)) (b := 0) (by omega) (by decide) c4
    refine v_aload_n F dX8_meanOf_16 0 rfl rfl ?_
    refine v_iconst (v := nI 0) F dX8_meanOf_17 (by decide) ?_
    refine v_bipush (v := nI 63) F dX8_meanOf_18 (by decide) ?_
    refine v_cVIF F cs_RX8_186 dX8_meanOf_20 0 (ci := 8) rfl rfl (m_X8_sumOf lau G ad T n mo Hs Xt Tw Qs Ks u2 Wi 0 63 (by omega) (by omega) (by omega)) (by decide) rfl rfl (Nat.le_of_ble_eq_true rfl) ⟨Nat.zero_le _, Nat.zero_le _⟩ (fun r5 u6 w7 => ?_)
    refine v_topi ((sm T n mo 0 (63 + 1 - 0))) w7 ?_
    refine v_i2d F dX8_meanOf_23 ?_
    refine v_iload_n F dX8_meanOf_24 1 rfl rfl ?_
    refine v_i2d F dX8_meanOf_25 ?_
    refine v_ddiv F dX8_meanOf_26 (mean_nn T n mo (by omega)) ?_
    exact v_dret F hr hlk hQ dX8_meanOf_27 (u6) rfl (by first | (rw [meanV, if_pos (by omega)]; done) | (rw [meanV, if_neg (by omega)]; done))
  · replace c4 := nE (a := (64 - plc T n mo (-1) 64)) (b := 0) (by omega) (by decide) c4
    refine v_dconst0 F dX8_meanOf_12 ?_
    refine v_goto F 27 dX8_meanOf_13 (by decide) ?_
    exact v_dret F hr hlk hQ dX8_meanOf_27 (u2) rfl (by first | (rw [meanV, if_pos (by omega)]; done) | (rw [meanV, if_neg (by omega)]; done))
set_option maxHeartbeats 400000 in
set_option maxRecDepth 100000 in
theorem m_X8_lowest (lau : Launch) (G : GT) (ad : Nat → Nat) (T : Nat → Int32) (n mo : Nat) (Hs : HT) (Xt : XT) (Tw : Nat) (Qs : QT) (Ks : KS) (Lo Wi : Nat → Int32) (x_ t_ : Int32) (hn : n ≤ 20) : MI lau G 6 yX8_lowest cX8_lowest 3 (some .int) [.ref (ad 0), .int x_, .int t_] (wM ad G (snp T n mo) Hs Xt Tw Qs Ks Lo Wi) (fun u : MS => wM ad G u.1 u.2.1 u.2.2.1 (xLow x_ t_) u.2.2.2.1 u.2.2.2.2.1 u.2.2.2.2.2.1 u.2.2.2.2.2.2) (fun r u => (xLow x_ t_ = 0 → r = oI (lb T x_.toNatClampNeg t_.toNatClampNeg (-1) n) ∧ u.1 = snp T n mo ∧ u.2.1 = Hs ∧ u.2.2.1 = Xt) ∧ (¬ xLow x_ t_ = 0 → u.1 = snp T n mo ∧ u.2.1 = Hs ∧ u.2.2.1 = Xt)) := by
  refine mi_of (by decide +kernel) (Nat.le_of_ble_eq_true rfl) ?_
  intro p e s m args below meth c A Q F hr hlk hQ
  refine v_st (w' := wM ad G (snp T n mo) Hs Xt Tw Qs Ks Lo Wi) (pc' := 0) (st' := []) rfl rfl rfl [0, 1, 2] (lv' := [(0, .ref (ad 0)), (1, .int x_), (2, .int t_)]) rfl ?_
  refine v_aload_n F dX8_lowest_0 0 rfl rfl ?_
  refine v_iconst (v := nI 0) F dX8_lowest_1 (by decide) ?_
  refine v_put F inlX8 (ci := 8) rfl tyX8 tyX8_ok nmX8 5 (by decide) rfl rfl wF_RX8_35 dX8_lowest_2 (ty := .int) (by decide +kernel) rfl rfl 0 rfl (Nat.le_of_ble_eq_true rfl) (wM ad G (snp T n mo) Hs Xt (0) Qs Ks Lo Wi) rfl ?_
  refine v_iload_n F dX8_lowest_5 1 rfl rfl ?_
  refine v_cSIE F cs_RX8_81 dX8_lowest_6 (m_X8_isPlace lau G x_ ) (by decide) rfl rfl (Nat.le_of_ble_eq_true rfl) ⟨Nat.zero_le _, Nat.zero_le _⟩ (fun r1 u2 w3 => ?_)
  subst w3
  refine v_if_eq F 29 dX8_lowest_9 (by decide) (fun c4 => ?_) (fun c4 => ?_)
  · replace c4 := bI_f c4
    refine v_aload_n F dX8_lowest_29 0 rfl rfl ?_
    refine v_iconst (v := nI 1) F dX8_lowest_30 (by decide) ?_
    refine v_cVIF F cs_RX8_46 dX8_lowest_31 0 (ci := 8) rfl rfl (m_X8_fails lau G ad (snp T n mo) Hs Xt (0) Qs Ks Lo Wi 1 ) (by decide) rfl rfl (Nat.le_of_ble_eq_true rfl) ⟨Nat.zero_le _, Nat.zero_le _⟩ (fun r5 u6 w7 => ?_)
    subst w7
    refine v_w (w' := wM ad G (snp T n mo) Hs Xt (xLow x_ t_) Qs Ks Lo Wi) (congrArg (fun z_ => wM ad G (snp T n mo) Hs Xt z_ Qs Ks Lo Wi) (show 1 = (xLow x_ t_) by simp [xLow, *])) ?_
    exact v_iret F hr hlk hQ dX8_lowest_34 (((snp T n mo), Hs, Xt, Qs, Ks, Lo, Wi)) rfl (by first | (refine ⟨fun q => absurd q ?_, fun _ => ⟨rfl, rfl, rfl⟩⟩; simp [xLow, *]; done) | (refine ⟨fun _ => ⟨?_, ?_, ?_, ?_⟩, fun q => absurd ?_ q⟩; (rw [hc_x, hc_t]); (rfl); (rfl); (rfl); simp [xLow, *]; done))
  · replace c4 := bI_t c4
    obtain ⟨x, hb0, rfl⟩ := plB_of c4
    have hc_x : (nI x).toNatClampNeg = x := nI_clamp (by omega)
    refine v_iload_n F dX8_lowest_12 2 rfl rfl ?_
    refine v_cSIE F cs_RX8_88 dX8_lowest_13 (m_X8_isMoment lau G t_ ) (by decide) rfl rfl (Nat.le_of_ble_eq_true rfl) ⟨Nat.zero_le _, Nat.zero_le _⟩ (fun r8 u9 w10 => ?_)
    subst w10
    refine v_if_eq F 29 dX8_lowest_16 (by decide) (fun c11 => ?_) (fun c11 => ?_)
    · replace c11 := bI_f c11
      refine v_aload_n F dX8_lowest_29 0 rfl rfl ?_
      refine v_iconst (v := nI 1) F dX8_lowest_30 (by decide) ?_
      refine v_cVIF F cs_RX8_46 dX8_lowest_31 0 (ci := 8) rfl rfl (m_X8_fails lau G ad (snp T n mo) Hs Xt (0) Qs Ks Lo Wi 1 ) (by decide) rfl rfl (Nat.le_of_ble_eq_true rfl) ⟨Nat.zero_le _, Nat.zero_le _⟩ (fun r12 u13 w14 => ?_)
      subst w14
      refine v_w (w' := wM ad G (snp T n mo) Hs Xt (xLow (nI x) t_) Qs Ks Lo Wi) (congrArg (fun z_ => wM ad G (snp T n mo) Hs Xt z_ Qs Ks Lo Wi) (show 1 = (xLow (nI x) t_) by simp [xLow, *])) ?_
      exact v_iret F hr hlk hQ dX8_lowest_34 (((snp T n mo), Hs, Xt, Qs, Ks, Lo, Wi)) rfl (by first | (refine ⟨fun q => absurd q ?_, fun _ => ⟨rfl, rfl, rfl⟩⟩; simp [xLow, *]; done) | (refine ⟨fun _ => ⟨?_, ?_, ?_, ?_⟩, fun q => absurd ?_ q⟩; (rw [hc_x, hc_t]); (rfl); (rfl); (rfl); simp [xLow, *]; done))
    · replace c11 := bI_t c11
      obtain ⟨t, hb1, rfl⟩ := moB_of c11
      have hc_t : (nI t).toNatClampNeg = t := nI_clamp (by omega)
      refine v_aload_n F dX8_lowest_19 0 rfl rfl ?_
      refine v_iload_n F dX8_lowest_20 1 rfl rfl ?_
      refine v_iload_n F dX8_lowest_21 2 rfl rfl ?_
      refine v_iconst (v := (-1)) F dX8_lowest_22 (by decide) ?_
      refine v_cVIF F cs_RX8_60 dX8_lowest_23 0 (ci := 8) rfl rfl (m_X8_lowestBut lau G ad T n mo Hs Xt (0) Qs Ks Lo Wi x t (-1) (by omega)) (by decide) rfl rfl (Nat.le_of_ble_eq_true rfl) ⟨Nat.zero_le _, Nat.zero_le _⟩ (fun r15 u16 w17 => ?_)
      subst w17
      refine v_goto F 34 dX8_lowest_26 (by decide) ?_
      refine v_w (w' := wM ad G (snp T n mo) Hs Xt (xLow (nI x) (nI t)) Qs Ks Lo Wi) (congrArg (fun z_ => wM ad G (snp T n mo) Hs Xt z_ Qs Ks Lo Wi) (show (0) = (xLow (nI x) (nI t)) by simp [xLow, *])) ?_
      exact v_iret F hr hlk hQ dX8_lowest_34 (((snp T n mo), Hs, Xt, Qs, Ks, Lo, Wi)) rfl (by first | (refine ⟨fun q => absurd q ?_, fun _ => ⟨rfl, rfl, rfl⟩⟩; simp [xLow, *]; done) | (refine ⟨fun _ => ⟨?_, ?_, ?_, ?_⟩, fun q => absurd ?_ q⟩; (rw [hc_x, hc_t]); (rfl); (rfl); (rfl); simp [xLow, *]; done))
set_option maxHeartbeats 400000 in
set_option maxRecDepth 100000 in
theorem m_X8_value (lau : Launch) (G : GT) (ad : Nat → Nat) (T : Nat → Int32) (n mo : Nat) (Hs : HT) (Xt : XT) (Tw : Nat) (Qs : QT) (Ks : KS) (Lo Wi : Nat → Int32) (x_ : Int32) (hn : n ≤ 20) : MI lau G 6 yX8_value cX8_value 3 (some .int) [.ref (ad 0), .int x_] (wM ad G (snp T n mo) Hs Xt Tw Qs Ks Lo Wi) (fun u : MS => wM ad G u.1 u.2.1 u.2.2.1 (xVal T n mo x_) u.2.2.2.1 u.2.2.2.2.1 u.2.2.2.2.2.1 u.2.2.2.2.2.2) (fun r u => (xVal T n mo x_ = 0 → r = oV T x_.toNatClampNeg (lb T x_.toNatClampNeg mo (-1) n) ∧ u.1 = snp T n mo ∧ u.2.1 = Hs ∧ u.2.2.1 = Xt) ∧ (¬ xVal T n mo x_ = 0 → u.1 = snp T n mo ∧ u.2.1 = Hs ∧ u.2.2.1 = Xt)) := by
  refine mi_of (by decide +kernel) (Nat.le_of_ble_eq_true rfl) ?_
  intro p e s m args below meth c A Q F hr hlk hQ
  refine v_st (w' := wM ad G (snp T n mo) Hs Xt Tw Qs Ks Lo Wi) (pc' := 0) (st' := []) rfl rfl rfl [0, 1] (lv' := [(0, .ref (ad 0)), (1, .int x_)]) rfl ?_
  refine v_aload_n F dX8_value_0 0 rfl rfl ?_
  refine v_iconst (v := nI 0) F dX8_value_1 (by decide) ?_
  refine v_put F inlX8 (ci := 8) rfl tyX8 tyX8_ok nmX8 5 (by decide) rfl rfl wF_RX8_35 dX8_value_2 (ty := .int) (by decide +kernel) rfl rfl 0 rfl (Nat.le_of_ble_eq_true rfl) (wM ad G (snp T n mo) Hs Xt (0) Qs Ks Lo Wi) rfl ?_
  refine v_iload_n F dX8_value_5 1 rfl rfl ?_
  refine v_cSIE F cs_RX8_81 dX8_value_6 (m_X8_isPlace lau G x_ ) (by decide) rfl rfl (Nat.le_of_ble_eq_true rfl) ⟨Nat.zero_le _, Nat.zero_le _⟩ (fun r1 u2 w3 => ?_)
  subst w3
  refine v_if_ne F 18 dX8_value_9 (by decide) (fun c4 => ?_) (fun c4 => ?_)
  · replace c4 := bI_t c4
    obtain ⟨x, hb0, rfl⟩ := plB_of c4
    have hc_x : (nI x).toNatClampNeg = x := nI_clamp (by omega)
    refine v_aload_n F dX8_value_18 0 rfl rfl ?_
    refine v_iload_n F dX8_value_19 1 rfl rfl ?_
    refine v_aload_n F dX8_value_20 0 rfl rfl ?_
    refine v_get (v := .ref (ad 1)) F inlX8 (ci := 8) rfl 0 (by decide) rfl wF_RX8_7 dX8_value_21 0 rfl rfl ?_
    refine v_iconst (v := nI 0) F dX8_value_24 (by decide) ?_
    refine v_ialdN F dX8_value_25 1 rfl 0 rfl (by omega) (by decide) ((snp T n mo) 0) rfl ?_
    refine v_topi (nI mo) rfl ?_
    refine v_iconst (v := (-1)) F dX8_value_26 (by decide) ?_
    refine v_cVIF F cs_RX8_60 dX8_value_27 0 (ci := 8) rfl rfl (m_X8_lowestBut lau G ad T n mo Hs Xt (0) Qs Ks Lo Wi x mo (-1) (by omega)) (by decide) rfl rfl (Nat.le_of_ble_eq_true rfl) ⟨Nat.zero_le _, Nat.zero_le _⟩ (fun r5 u6 w7 => ?_)
    subst w7
    rcases hg : lb T x mo (-1) n with _ | g
    · refine v_topi (-1) rfl ?_
      refine v_istore_n (lv' := [(2, .int (-1)), (0, .ref (ad 0)), (1, .int (nI x))]) F dX8_value_30 2 rfl (by decide) rfl ?_
      refine v_iload_n F dX8_value_31 2 rfl rfl ?_
      refine v_iconst (v := (-1)) F dX8_value_32 (by decide) ?_
      refine v_icmp_ne F 44 dX8_value_33 (by decide) (fun h => absurd h (by decide)) (fun _ => ?_)
      refine v_aload_n F dX8_value_36 0 rfl rfl ?_
      refine v_iconst (v := nI 2) F dX8_value_37 (by decide) ?_
      refine v_cVIF F cs_RX8_46 dX8_value_38 0 (ci := 8) rfl rfl (m_X8_fails lau G ad (snp T n mo) Hs Xt (0) Qs Ks Lo Wi 2 ) (by decide) rfl rfl (Nat.le_of_ble_eq_true rfl) ⟨Nat.zero_le _, Nat.zero_le _⟩ (fun r8 u9 w10 => ?_)
      subst w10
      refine v_goto F 50 dX8_value_41 (by decide) ?_
      refine v_w (w' := wM ad G (snp T n mo) Hs Xt (xVal T n mo (nI x)) Qs Ks Lo Wi) (congrArg (fun z_ => wM ad G (snp T n mo) Hs Xt z_ Qs Ks Lo Wi) (show 2 = (xVal T n mo (nI x)) by simp [xVal, *])) ?_
      exact v_iret F hr hlk hQ dX8_value_50 (((snp T n mo), Hs, Xt, Qs, Ks, Lo, Wi)) rfl (by first | (refine ⟨fun q => absurd q ?_, fun _ => ⟨rfl, rfl, rfl⟩⟩; simp [xVal, *]; done) | (refine ⟨fun _ => ⟨?_, ?_, ?_, ?_⟩, fun q => absurd ?_ q⟩; (simp only [hc_x, hg, oV]); (rfl); (rfl); (rfl); simp [xVal, *]; done))
    · have hgl := lb_lt _ _ _ _ _ _ hg
      refine v_topi (nI g) rfl ?_
      refine v_istore_n (lv' := [(2, .int (nI g)), (0, .ref (ad 0)), (1, .int (nI x))]) F dX8_value_30 2 rfl (by decide) rfl ?_
      refine v_iload_n F dX8_value_31 2 rfl rfl ?_
      refine v_iconst (v := (-1)) F dX8_value_32 (by decide) ?_
      refine v_icmp_ne F 44 dX8_value_33 (by decide) (fun c11 => ?_) (fun c11 => ?_)
      · refine v_aload_n F dX8_value_44 0 rfl rfl ?_
        refine v_iload_n F dX8_value_45 2 rfl rfl ?_
        refine v_iload_n F dX8_value_46 1 rfl rfl ?_
        refine v_cVIF F cs_RX8_54 dX8_value_47 0 (ci := 8) rfl rfl (m_X8_at lau G ad T n mo Hs Xt (0) Qs Ks Lo Wi g x (by omega)) (by decide) rfl rfl (Nat.le_of_ble_eq_true rfl) ⟨Nat.zero_le _, Nat.zero_le _⟩ (fun r12 u13 w14 => ?_)
        subst w14
        refine v_w (w' := wM ad G (snp T n mo) Hs Xt (xVal T n mo (nI x)) Qs Ks Lo Wi) (congrArg (fun z_ => wM ad G (snp T n mo) Hs Xt z_ Qs Ks Lo Wi) (show (0) = (xVal T n mo (nI x)) by simp [xVal, *])) ?_
        exact v_iret F hr hlk hQ dX8_value_50 (((snp T n mo), Hs, Xt, Qs, Ks, Lo, Wi)) rfl (by first | (refine ⟨fun q => absurd q ?_, fun _ => ⟨rfl, rfl, rfl⟩⟩; simp [xVal, *]; done) | (refine ⟨fun _ => ⟨?_, ?_, ?_, ?_⟩, fun q => absurd ?_ q⟩; (simp only [hc_x, hg, oV]); (rfl); (rfl); (rfl); simp [xVal, *]; done))
      · exact absurd c11 (nI_ne1 (by omega))
  · replace c4 := bI_f c4
    refine v_aload_n F dX8_value_12 0 rfl rfl ?_
    refine v_iconst (v := nI 1) F dX8_value_13 (by decide) ?_
    refine v_cVIF F cs_RX8_46 dX8_value_14 0 (ci := 8) rfl rfl (m_X8_fails lau G ad (snp T n mo) Hs Xt (0) Qs Ks Lo Wi 1 ) (by decide) rfl rfl (Nat.le_of_ble_eq_true rfl) ⟨Nat.zero_le _, Nat.zero_le _⟩ (fun r15 u16 w17 => ?_)
    subst w17
    refine v_w (w' := wM ad G (snp T n mo) Hs Xt (xVal T n mo x_) Qs Ks Lo Wi) (congrArg (fun z_ => wM ad G (snp T n mo) Hs Xt z_ Qs Ks Lo Wi) (show 1 = (xVal T n mo x_) by simp [xVal, *])) ?_
    exact v_iret F hr hlk hQ dX8_value_17 (((snp T n mo), Hs, Xt, Qs, Ks, Lo, Wi)) rfl (by first | (refine ⟨fun q => absurd q ?_, fun _ => ⟨rfl, rfl, rfl⟩⟩; simp [xVal, *]; done) | (refine ⟨fun _ => ⟨?_, ?_, ?_, ?_⟩, fun q => absurd ?_ q⟩; (simp only [hc_x, hg, oV]); (rfl); (rfl); (rfl); simp [xVal, *]; done))
theorem cs_RX8_177 : CSV RX8 177 RX8 yX8_rankedAt cX8_rankedAt 6 (some .int) 2 := ⟨wC_yX8_rankedAt, wM_RX8_177, wIm_yX8_rankedAt, wSe_yX8_rankedAt, wI_RX8, by decide +kernel, by decide⟩
set_option maxHeartbeats 400000 in
set_option maxRecDepth 100000 in
theorem m_X8_ranked (lau : Launch) (G : GT) (ad : Nat → Nat) (T : Nat → Int32) (n mo : Nat) (Hs : HT) (Xt : XT) (Tw : Nat) (Qs : QT) (Ks : KS) (Lo Wi : Nat → Int32) (x_ rk_ : Int32) (hn : n ≤ 20) : MI lau G 6 yX8_ranked cX8_ranked 3 (some .int) [.ref (ad 0), .int x_, .int rk_] (wM ad G (snp T n mo) Hs Xt Tw Qs Ks Lo Wi) (fun u : MS => wM ad G u.1 u.2.1 u.2.2.1 (xRkd x_ rk_) u.2.2.2.1 u.2.2.2.2.1 u.2.2.2.2.2.1 u.2.2.2.2.2.2) (fun r u => (xRkd x_ rk_ = 0 → r = rkV T n mo x_.toNatClampNeg rk_.toNatClampNeg ∧ u.1 = snp T n mo ∧ u.2.1 = Hs ∧ u.2.2.1 = Xt) ∧ (¬ xRkd x_ rk_ = 0 → u.1 = snp T n mo ∧ u.2.1 = Hs ∧ u.2.2.1 = Xt)) := by
  refine mi_of (by decide +kernel) (Nat.le_of_ble_eq_true rfl) ?_
  intro p e s m args below meth c A Q F hr hlk hQ
  refine v_st (w' := wM ad G (snp T n mo) Hs Xt Tw Qs Ks Lo Wi) (pc' := 0) (st' := []) rfl rfl rfl [0, 1, 2] (lv' := [(0, .ref (ad 0)), (1, .int x_), (2, .int rk_)]) rfl ?_
  refine v_aload_n F dX8_ranked_0 0 rfl rfl ?_
  refine v_iconst (v := nI 0) F dX8_ranked_1 (by decide) ?_
  refine v_put F inlX8 (ci := 8) rfl tyX8 tyX8_ok nmX8 5 (by decide) rfl rfl wF_RX8_35 dX8_ranked_2 (ty := .int) (by decide +kernel) rfl rfl 0 rfl (Nat.le_of_ble_eq_true rfl) (wM ad G (snp T n mo) Hs Xt (0) Qs Ks Lo Wi) rfl ?_
  refine v_iload_n F dX8_ranked_5 1 rfl rfl ?_
  refine v_cSIE F cs_RX8_81 dX8_ranked_6 (m_X8_isPlace lau G x_ ) (by decide) rfl rfl (Nat.le_of_ble_eq_true rfl) ⟨Nat.zero_le _, Nat.zero_le _⟩ (fun r1 u2 w3 => ?_)
  subst w3
  refine v_if_eq F 25 dX8_ranked_9 (by decide) (fun c4 => ?_) (fun c4 => ?_)
  · replace c4 := bI_f c4
    refine v_aload_n F dX8_ranked_25 0 rfl rfl ?_
    refine v_iconst (v := nI 1) F dX8_ranked_26 (by decide) ?_
    refine v_cVIF F cs_RX8_46 dX8_ranked_27 0 (ci := 8) rfl rfl (m_X8_fails lau G ad (snp T n mo) Hs Xt (0) Qs Ks Lo Wi 1 ) (by decide) rfl rfl (Nat.le_of_ble_eq_true rfl) ⟨Nat.zero_le _, Nat.zero_le _⟩ (fun r5 u6 w7 => ?_)
    subst w7
    refine v_w (w' := wM ad G (snp T n mo) Hs Xt (xRkd x_ rk_) Qs Ks Lo Wi) (congrArg (fun z_ => wM ad G (snp T n mo) Hs Xt z_ Qs Ks Lo Wi) (show 1 = (xRkd x_ rk_) by simp [xRkd, *])) ?_
    exact v_iret F hr hlk hQ dX8_ranked_30 (((snp T n mo), Hs, Xt, Qs, Ks, Lo, Wi)) rfl (by first | (refine ⟨fun q => absurd q ?_, fun _ => ⟨rfl, rfl, rfl⟩⟩; simp [xRkd, *]; done) | (refine ⟨fun _ => ⟨?_, ?_, ?_, ?_⟩, fun q => absurd ?_ q⟩; (rw [hc_x, hc_rk]); (rfl); (rfl); (rfl); simp [xRkd, *]; done))
  · replace c4 := bI_t c4
    obtain ⟨x, hb0, rfl⟩ := plB_of c4
    have hc_x : (nI x).toNatClampNeg = x := nI_clamp (by omega)
    refine v_iload_n F dX8_ranked_12 2 rfl rfl ?_
    refine v_if_lt F 25 dX8_ranked_13 (by decide) (fun c8 => ?_) (fun c8 => ?_)
    · refine v_aload_n F dX8_ranked_25 0 rfl rfl ?_
      refine v_iconst (v := nI 1) F dX8_ranked_26 (by decide) ?_
      refine v_cVIF F cs_RX8_46 dX8_ranked_27 0 (ci := 8) rfl rfl (m_X8_fails lau G ad (snp T n mo) Hs Xt (0) Qs Ks Lo Wi 1 ) (by decide) rfl rfl (Nat.le_of_ble_eq_true rfl) ⟨Nat.zero_le _, Nat.zero_le _⟩ (fun r9 u10 w11 => ?_)
      subst w11
      refine v_w (w' := wM ad G (snp T n mo) Hs Xt (xRkd (nI x) rk_) Qs Ks Lo Wi) (congrArg (fun z_ => wM ad G (snp T n mo) Hs Xt z_ Qs Ks Lo Wi) (show 1 = (xRkd (nI x) rk_) by simp [xRkd, *])) ?_
      exact v_iret F hr hlk hQ dX8_ranked_30 (((snp T n mo), Hs, Xt, Qs, Ks, Lo, Wi)) rfl (by first | (refine ⟨fun q => absurd q ?_, fun _ => ⟨rfl, rfl, rfl⟩⟩; simp [xRkd, *]; done) | (refine ⟨fun _ => ⟨?_, ?_, ?_, ?_⟩, fun q => absurd ?_ q⟩; (rw [hc_x, hc_rk]); (rfl); (rfl); (rfl); simp [xRkd, *]; done))
    · obtain ⟨rk, hb1, rfl⟩ := nI_of c8
      have hc_rk : (nI rk).toNatClampNeg = rk := nI_clamp (by omega)
      refine v_aload_n F dX8_ranked_16 0 rfl rfl ?_
      refine v_iload_n F dX8_ranked_17 1 rfl rfl ?_
      refine v_iload_n F dX8_ranked_18 2 rfl rfl ?_
      refine v_cVIF F cs_RX8_177 dX8_ranked_19 0 (ci := 8) rfl rfl (m_X8_rankedAt lau G ad T n mo Hs Xt (0) Qs Ks Lo Wi x rk (by omega) (by omega)) (by decide) rfl rfl (Nat.le_of_ble_eq_true rfl) ⟨Nat.zero_le _, Nat.zero_le _⟩ (fun r12 u13 w14 => ?_)
      refine v_topi ((rkV T n mo x rk)) w14 ?_
      refine v_goto F 30 dX8_ranked_22 (by decide) ?_
      refine v_w (w' := wM ad G (snp T n mo) Hs Xt (xRkd (nI x) (nI rk)) Qs Ks Lo Wi) (congrArg (fun z_ => wM ad G (snp T n mo) Hs Xt z_ Qs Ks Lo Wi) (show (0) = (xRkd (nI x) (nI rk)) by simp [xRkd, *])) ?_
      exact v_iret F hr hlk hQ dX8_ranked_30 (((snp T n mo), Hs, Xt, Qs, Ks, Lo, Wi)) rfl (by first | (refine ⟨fun q => absurd q ?_, fun _ => ⟨rfl, rfl, rfl⟩⟩; simp [xRkd, *]; done) | (refine ⟨fun _ => ⟨?_, ?_, ?_, ?_⟩, fun q => absurd ?_ q⟩; (rw [hc_x, hc_rk]); (rfl); (rfl); (rfl); simp [xRkd, *]; done))
set_option maxHeartbeats 400000 in
set_option maxRecDepth 100000 in
theorem m_X8_sum (lau : Launch) (G : GT) (ad : Nat → Nat) (T : Nat → Int32) (n mo : Nat) (Hs : HT) (Xt : XT) (Tw : Nat) (Qs : QT) (Ks : KS) (Lo Wi : Nat → Int32) (f q : Int32) (hn : n ≤ 20) : MI lau G 6 yX8_sum cX8_sum 3 (some .int) [.ref (ad 0), .int f, .int q] (wM ad G (snp T n mo) Hs Xt Tw Qs Ks Lo Wi) (fun u : MS => wM ad G u.1 u.2.1 u.2.2.1 (xSum f q) u.2.2.2.1 u.2.2.2.2.1 u.2.2.2.2.2.1 u.2.2.2.2.2.2) (fun r u => (xSum f q = 0 → r = sm T n mo f.toNatClampNeg (q.toNatClampNeg + 1 - f.toNatClampNeg) ∧ u.1 = snp T n mo ∧ u.2.1 = Hs ∧ u.2.2.1 = Xt) ∧ (¬ xSum f q = 0 → u.1 = snp T n mo ∧ u.2.1 = Hs ∧ u.2.2.1 = Xt)) := by
  refine mi_of (by decide +kernel) (Nat.le_of_ble_eq_true rfl) ?_
  intro p e s m args below meth c A Q F hr hlk hQ
  refine v_st (w' := wM ad G (snp T n mo) Hs Xt Tw Qs Ks Lo Wi) (pc' := 0) (st' := []) rfl rfl rfl [0, 1, 2] (lv' := [(0, .ref (ad 0)), (1, .int f), (2, .int q)]) rfl ?_
  refine v_aload_n F dX8_sum_0 0 rfl rfl ?_
  refine v_iconst (v := nI 0) F dX8_sum_1 (by decide) ?_
  refine v_put F inlX8 (ci := 8) rfl tyX8 tyX8_ok nmX8 5 (by decide) rfl rfl wF_RX8_35 dX8_sum_2 (ty := .int) (by decide +kernel) rfl rfl 0 rfl (Nat.le_of_ble_eq_true rfl) (wM ad G (snp T n mo) Hs Xt (0) Qs Ks Lo Wi) rfl ?_
  refine v_iload_n F dX8_sum_5 1 rfl rfl ?_
  refine v_cSIE F cs_RX8_81 dX8_sum_6 (m_X8_isPlace lau G f ) (by decide) rfl rfl (Nat.le_of_ble_eq_true rfl) ⟨Nat.zero_le _, Nat.zero_le _⟩ (fun r1 u2 w3 => ?_)
  subst w3
  refine v_if_eq F 33 dX8_sum_9 (by decide) (fun c4 => ?_) (fun c4 => ?_)
  · replace c4 := bI_f c4
    refine v_aload_n F dX8_sum_33 0 rfl rfl ?_
    refine v_iconst (v := nI 1) F dX8_sum_34 (by decide) ?_
    refine v_cVIF F cs_RX8_46 dX8_sum_35 0 (ci := 8) rfl rfl (m_X8_fails lau G ad (snp T n mo) Hs Xt (0) Qs Ks Lo Wi 1 ) (by decide) rfl rfl (Nat.le_of_ble_eq_true rfl) ⟨Nat.zero_le _, Nat.zero_le _⟩ (fun r5 u6 w7 => ?_)
    subst w7
    refine v_w (w' := wM ad G (snp T n mo) Hs Xt (xSum f q) Qs Ks Lo Wi) (congrArg (fun z_ => wM ad G (snp T n mo) Hs Xt z_ Qs Ks Lo Wi) (show 1 = (xSum f q) by simp [xSum, stM64, *])) ?_
    exact v_iret F hr hlk hQ dX8_sum_38 (((snp T n mo), Hs, Xt, Qs, Ks, Lo, Wi)) rfl (by first | (refine ⟨fun q => absurd q ?_, fun _ => ⟨rfl, rfl, rfl⟩⟩; simp [xSum, stM64, *]; done) | (refine ⟨fun _ => ⟨?_, ?_, ?_, ?_⟩, fun q => absurd ?_ q⟩; (rw [hc_a, hc_b]); (rfl); (rfl); (rfl); simp [xSum, stM64, *]; done))
  · replace c4 := bI_t c4
    obtain ⟨a, ha0, rfl⟩ := plB_of c4
    have hc_a : (nI a).toNatClampNeg = a := nI_clamp (by omega)
    refine v_iload_n F dX8_sum_12 2 rfl rfl ?_
    refine v_cSIE F cs_RX8_81 dX8_sum_13 (m_X8_isPlace lau G q ) (by decide) rfl rfl (Nat.le_of_ble_eq_true rfl) ⟨Nat.zero_le _, Nat.zero_le _⟩ (fun r8 u9 w10 => ?_)
    subst w10
    refine v_if_eq F 33 dX8_sum_16 (by decide) (fun c11 => ?_) (fun c11 => ?_)
    · replace c11 := bI_f c11
      refine v_aload_n F dX8_sum_33 0 rfl rfl ?_
      refine v_iconst (v := nI 1) F dX8_sum_34 (by decide) ?_
      refine v_cVIF F cs_RX8_46 dX8_sum_35 0 (ci := 8) rfl rfl (m_X8_fails lau G ad (snp T n mo) Hs Xt (0) Qs Ks Lo Wi 1 ) (by decide) rfl rfl (Nat.le_of_ble_eq_true rfl) ⟨Nat.zero_le _, Nat.zero_le _⟩ (fun r12 u13 w14 => ?_)
      subst w14
      refine v_w (w' := wM ad G (snp T n mo) Hs Xt (xSum (nI a) q) Qs Ks Lo Wi) (congrArg (fun z_ => wM ad G (snp T n mo) Hs Xt z_ Qs Ks Lo Wi) (show 1 = (xSum (nI a) q) by simp [xSum, stM64, *])) ?_
      exact v_iret F hr hlk hQ dX8_sum_38 (((snp T n mo), Hs, Xt, Qs, Ks, Lo, Wi)) rfl (by first | (refine ⟨fun q => absurd q ?_, fun _ => ⟨rfl, rfl, rfl⟩⟩; simp [xSum, stM64, *]; done) | (refine ⟨fun _ => ⟨?_, ?_, ?_, ?_⟩, fun q => absurd ?_ q⟩; (rw [hc_a, hc_b]); (rfl); (rfl); (rfl); simp [xSum, stM64, *]; done))
    · replace c11 := bI_t c11
      obtain ⟨b, hb1, rfl⟩ := plB_of c11
      have hc_b : (nI b).toNatClampNeg = b := nI_clamp (by omega)
      refine v_iload_n F dX8_sum_19 1 rfl rfl ?_
      refine v_iload_n F dX8_sum_20 2 rfl rfl ?_
      refine v_icmp_gt F 33 dX8_sum_21 (by decide) (fun c15 => ?_) (fun c15 => ?_)
      · replace c15 := nT (a := a) (b := b) (by omega) (by omega) c15
        have hnn := nn_gt (a := a) (b := b) (by omega) (by omega) c15
        refine v_aload_n F dX8_sum_33 0 rfl rfl ?_
        refine v_iconst (v := nI 1) F dX8_sum_34 (by decide) ?_
        refine v_cVIF F cs_RX8_46 dX8_sum_35 0 (ci := 8) rfl rfl (m_X8_fails lau G ad (snp T n mo) Hs Xt (0) Qs Ks Lo Wi 1 ) (by decide) rfl rfl (Nat.le_of_ble_eq_true rfl) ⟨Nat.zero_le _, Nat.zero_le _⟩ (fun r16 u17 w18 => ?_)
        subst w18
        refine v_w (w' := wM ad G (snp T n mo) Hs Xt (xSum (nI a) (nI b)) Qs Ks Lo Wi) (congrArg (fun z_ => wM ad G (snp T n mo) Hs Xt z_ Qs Ks Lo Wi) (show 1 = (xSum (nI a) (nI b)) by simp [xSum, stM64, *])) ?_
        exact v_iret F hr hlk hQ dX8_sum_38 (((snp T n mo), Hs, Xt, Qs, Ks, Lo, Wi)) rfl (by first | (refine ⟨fun q => absurd q ?_, fun _ => ⟨rfl, rfl, rfl⟩⟩; simp [xSum, stM64, *]; done) | (refine ⟨fun _ => ⟨?_, ?_, ?_, ?_⟩, fun q => absurd ?_ q⟩; (rw [hc_a, hc_b]); (rfl); (rfl); (rfl); simp [xSum, stM64, *]; done))
      · replace c15 := nTn (a := a) (b := b) (by omega) (by omega) c15
        have hnn := nn_lt (a := a) (b := b) (by omega) (by omega) c15
        refine v_aload_n F dX8_sum_24 0 rfl rfl ?_
        refine v_iload_n F dX8_sum_25 1 rfl rfl ?_
        refine v_iload_n F dX8_sum_26 2 rfl rfl ?_
        refine v_cVIF F cs_RX8_186 dX8_sum_27 0 (ci := 8) rfl rfl (m_X8_sumOf lau G ad T n mo Hs Xt (0) Qs Ks Lo Wi a b (by omega) (by omega) (by omega)) (by decide) rfl rfl (Nat.le_of_ble_eq_true rfl) ⟨Nat.zero_le _, Nat.zero_le _⟩ (fun r19 u20 w21 => ?_)
        refine v_topi ((sm T n mo a (b + 1 - a))) w21 ?_
        refine v_goto F 38 dX8_sum_30 (by decide) ?_
        refine v_w (w' := wM ad G (snp T n mo) Hs Xt (xSum (nI a) (nI b)) Qs Ks u20 Wi) (congrArg (fun z_ => wM ad G (snp T n mo) Hs Xt z_ Qs Ks u20 Wi) (show (0) = (xSum (nI a) (nI b)) by simp [xSum, stM64, *])) ?_
        exact v_iret F hr hlk hQ dX8_sum_38 (((snp T n mo), Hs, Xt, Qs, Ks, u20, Wi)) rfl (by first | (refine ⟨fun q => absurd q ?_, fun _ => ⟨rfl, rfl, rfl⟩⟩; simp [xSum, stM64, *]; done) | (refine ⟨fun _ => ⟨?_, ?_, ?_, ?_⟩, fun q => absurd ?_ q⟩; (rw [hc_a, hc_b]); (rfl); (rfl); (rfl); simp [xSum, stM64, *]; done))
theorem cs_RX8_202 : CSV RX8 202 RX8 yX8_placesOf cX8_placesOf 5 (some .int) 2 := ⟨wC_yX8_placesOf, wM_RX8_202, wIm_yX8_placesOf, wSe_yX8_placesOf, wI_RX8, by decide +kernel, by decide⟩
set_option maxHeartbeats 400000 in
set_option maxRecDepth 100000 in
theorem m_X8_ifAdded (lau : Launch) (G : GT) (ad : Nat → Nat) (T : Nat → Int32) (n mo : Nat) (Hs : HT) (Xt : XT) (Tw : Nat) (Qs : QT) (Ks : KS) (Lo Wi : Nat → Int32) (sl off : Int32) (hn : n ≤ 20) : MI lau G 6 yX8_ifAdded cX8_ifAdded 3 (some .int) [.ref (ad 0), .int sl, .int off] (wM ad G (snp T n mo) Hs Xt Tw Qs Ks Lo Wi) (fun u : MS => wM ad G u.1 u.2.1 u.2.2.1 (xIfa sl off) u.2.2.2.1 u.2.2.2.2.1 u.2.2.2.2.2.1 u.2.2.2.2.2.2) (fun r u => (xIfa sl off = 0 → r = nI (ifa T n mo sl off 64) ∧ u.1 = snp T n mo ∧ u.2.1 = Hs ∧ u.2.2.1 = Xt) ∧ (¬ xIfa sl off = 0 → u.1 = snp T n mo ∧ u.2.1 = Hs ∧ u.2.2.1 = Xt)) := by
  refine mi_of (by decide +kernel) (Nat.le_of_ble_eq_true rfl) ?_
  intro p e s m args below meth c A Q F hr hlk hQ
  refine v_st (w' := wM ad G (snp T n mo) Hs Xt Tw Qs Ks Lo Wi) (pc' := 0) (st' := []) rfl rfl rfl [0, 1, 2] (lv' := [(0, .ref (ad 0)), (1, .int sl), (2, .int off)]) rfl ?_
  refine v_aload_n F dX8_ifAdded_0 0 rfl rfl ?_
  refine v_iconst (v := nI 0) F dX8_ifAdded_1 (by decide) ?_
  refine v_put F inlX8 (ci := 8) rfl tyX8 tyX8_ok nmX8 5 (by decide) rfl rfl wF_RX8_35 dX8_ifAdded_2 (ty := .int) (by decide +kernel) rfl rfl 0 rfl (Nat.le_of_ble_eq_true rfl) (wM ad G (snp T n mo) Hs Xt (0) Qs Ks Lo Wi) rfl ?_
  refine v_iload_n F dX8_ifAdded_5 1 rfl rfl ?_
  refine v_cSIE F cs_RX8_64 dX8_ifAdded_6 (m_X8_isSlope lau G sl ) (by decide) rfl rfl (Nat.le_of_ble_eq_true rfl) ⟨Nat.zero_le _, Nat.zero_le _⟩ (fun r1 u2 w3 => ?_)
  subst w3
  refine v_if_eq F 28 dX8_ifAdded_9 (by decide) (fun c4 => ?_) (fun c4 => ?_)
  · replace c4 := bI_f c4
    refine v_aload_n F dX8_ifAdded_28 0 rfl rfl ?_
    refine v_iconst (v := nI 1) F dX8_ifAdded_29 (by decide) ?_
    refine v_cVIF F cs_RX8_46 dX8_ifAdded_30 0 (ci := 8) rfl rfl (m_X8_fails lau G ad (snp T n mo) Hs Xt (0) Qs Ks Lo Wi 1 ) (by decide) rfl rfl (Nat.le_of_ble_eq_true rfl) ⟨Nat.zero_le _, Nat.zero_le _⟩ (fun r5 u6 w7 => ?_)
    subst w7
    refine v_w (w' := wM ad G (snp T n mo) Hs Xt (xIfa sl off) Qs Ks Lo Wi) (congrArg (fun z_ => wM ad G (snp T n mo) Hs Xt z_ Qs Ks Lo Wi) (show 1 = (xIfa sl off) by simp [xIfa, *])) ?_
    exact v_iret F hr hlk hQ dX8_ifAdded_33 (((snp T n mo), Hs, Xt, Qs, Ks, Lo, Wi)) rfl (by first | (refine ⟨fun q => absurd q ?_, fun _ => ⟨rfl, rfl, rfl⟩⟩; simp [xIfa, *]; done) | (refine ⟨fun _ => ⟨?_, ?_, ?_, ?_⟩, fun q => absurd ?_ q⟩; (rfl); (rfl); (rfl); (rfl); simp [xIfa, *]; done))
  · replace c4 := bI_t c4
    refine v_iload_n F dX8_ifAdded_12 2 rfl rfl ?_
    refine v_cSIE F cs_RX8_68 dX8_ifAdded_13 (m_X8_isOffset lau G off ) (by decide) rfl rfl (Nat.le_of_ble_eq_true rfl) ⟨Nat.zero_le _, Nat.zero_le _⟩ (fun r8 u9 w10 => ?_)
    subst w10
    refine v_if_eq F 28 dX8_ifAdded_16 (by decide) (fun c11 => ?_) (fun c11 => ?_)
    · replace c11 := bI_f c11
      refine v_aload_n F dX8_ifAdded_28 0 rfl rfl ?_
      refine v_iconst (v := nI 1) F dX8_ifAdded_29 (by decide) ?_
      refine v_cVIF F cs_RX8_46 dX8_ifAdded_30 0 (ci := 8) rfl rfl (m_X8_fails lau G ad (snp T n mo) Hs Xt (0) Qs Ks Lo Wi 1 ) (by decide) rfl rfl (Nat.le_of_ble_eq_true rfl) ⟨Nat.zero_le _, Nat.zero_le _⟩ (fun r12 u13 w14 => ?_)
      subst w14
      refine v_w (w' := wM ad G (snp T n mo) Hs Xt (xIfa sl off) Qs Ks Lo Wi) (congrArg (fun z_ => wM ad G (snp T n mo) Hs Xt z_ Qs Ks Lo Wi) (show 1 = (xIfa sl off) by simp [xIfa, *])) ?_
      exact v_iret F hr hlk hQ dX8_ifAdded_33 (((snp T n mo), Hs, Xt, Qs, Ks, Lo, Wi)) rfl (by first | (refine ⟨fun q => absurd q ?_, fun _ => ⟨rfl, rfl, rfl⟩⟩; simp [xIfa, *]; done) | (refine ⟨fun _ => ⟨?_, ?_, ?_, ?_⟩, fun q => absurd ?_ q⟩; (rfl); (rfl); (rfl); (rfl); simp [xIfa, *]; done))
    · replace c11 := bI_t c11
      refine v_aload_n F dX8_ifAdded_19 0 rfl rfl ?_
      refine v_iload_n F dX8_ifAdded_20 1 rfl rfl ?_
      refine v_iload_n F dX8_ifAdded_21 2 rfl rfl ?_
      refine v_cVIF F cs_RX8_202 dX8_ifAdded_22 0 (ci := 8) rfl rfl (m_X8_placesOf lau G ad T n mo Hs Xt (0) Qs Ks Lo Wi sl off (by omega)) (by decide) rfl rfl (Nat.le_of_ble_eq_true rfl) ⟨Nat.zero_le _, Nat.zero_le _⟩ (fun r15 u16 w17 => ?_)
      refine v_topi (nI (ifa T n mo sl off 64)) w17 ?_
      refine v_goto F 33 dX8_ifAdded_25 (by decide) ?_
      refine v_w (w' := wM ad G (snp T n mo) Hs Xt (xIfa sl off) Qs Ks u16 Wi) (congrArg (fun z_ => wM ad G (snp T n mo) Hs Xt z_ Qs Ks u16 Wi) (show (0) = (xIfa sl off) by simp [xIfa, *])) ?_
      exact v_iret F hr hlk hQ dX8_ifAdded_33 (((snp T n mo), Hs, Xt, Qs, Ks, u16, Wi)) rfl (by first | (refine ⟨fun q => absurd q ?_, fun _ => ⟨rfl, rfl, rfl⟩⟩; simp [xIfa, *]; done) | (refine ⟨fun _ => ⟨?_, ?_, ?_, ?_⟩, fun q => absurd ?_ q⟩; (rfl); (rfl); (rfl); (rfl); simp [xIfa, *]; done))
theorem cs_RX8_205 : CSV RX8 205 RX8 yX8_highestOf cX8_highestOf 5 (some .int) 1 := ⟨wC_yX8_highestOf, wM_RX8_205, wIm_yX8_highestOf, wSe_yX8_highestOf, wI_RX8, by decide +kernel, by decide⟩
set_option maxHeartbeats 400000 in
set_option maxRecDepth 100000 in
theorem m_X8_highest (lau : Launch) (G : GT) (ad : Nat → Nat) (T : Nat → Int32) (n mo : Nat) (Hs : HT) (Xt : XT) (Tw : Nat) (Qs : QT) (Ks : KS) (Lo Wi : Nat → Int32) (sl : Int32) (hn : n ≤ 20) : MI lau G 6 yX8_highest cX8_highest 2 (some .int) [.ref (ad 0), .int sl] (wM ad G (snp T n mo) Hs Xt Tw Qs Ks Lo Wi) (fun u : MS => wM ad G u.1 u.2.1 u.2.2.1 (xHi sl) u.2.2.2.1 u.2.2.2.2.1 u.2.2.2.2.2.1 u.2.2.2.2.2.2) (fun r u => (xHi sl = 0 → r = hiC T n mo sl ∧ u.1 = snp T n mo ∧ u.2.1 = Hs ∧ u.2.2.1 = Xt) ∧ (¬ xHi sl = 0 → u.1 = snp T n mo ∧ u.2.1 = Hs ∧ u.2.2.1 = Xt)) := by
  refine mi_of (by decide +kernel) (Nat.le_of_ble_eq_true rfl) ?_
  intro p e s m args below meth c A Q F hr hlk hQ
  refine v_st (w' := wM ad G (snp T n mo) Hs Xt Tw Qs Ks Lo Wi) (pc' := 0) (st' := []) rfl rfl rfl [0, 1] (lv' := [(0, .ref (ad 0)), (1, .int sl)]) rfl ?_
  refine v_aload_n F dX8_highest_0 0 rfl rfl ?_
  refine v_iconst (v := nI 0) F dX8_highest_1 (by decide) ?_
  refine v_put F inlX8 (ci := 8) rfl tyX8 tyX8_ok nmX8 5 (by decide) rfl rfl wF_RX8_35 dX8_highest_2 (ty := .int) (by decide +kernel) rfl rfl 0 rfl (Nat.le_of_ble_eq_true rfl) (wM ad G (snp T n mo) Hs Xt (0) Qs Ks Lo Wi) rfl ?_
  refine v_iload_n F dX8_highest_5 1 rfl rfl ?_
  refine v_cSIE F cs_RX8_64 dX8_highest_6 (m_X8_isSlope lau G sl ) (by decide) rfl rfl (Nat.le_of_ble_eq_true rfl) ⟨Nat.zero_le _, Nat.zero_le _⟩ (fun r1 u2 w3 => ?_)
  subst w3
  refine v_if_eq F 20 dX8_highest_9 (by decide) (fun c4 => ?_) (fun c4 => ?_)
  · replace c4 := bI_f c4
    refine v_aload_n F dX8_highest_20 0 rfl rfl ?_
    refine v_iconst (v := nI 1) F dX8_highest_21 (by decide) ?_
    refine v_cVIF F cs_RX8_46 dX8_highest_22 0 (ci := 8) rfl rfl (m_X8_fails lau G ad (snp T n mo) Hs Xt (0) Qs Ks Lo Wi 1 ) (by decide) rfl rfl (Nat.le_of_ble_eq_true rfl) ⟨Nat.zero_le _, Nat.zero_le _⟩ (fun r5 u6 w7 => ?_)
    subst w7
    refine v_w (w' := wM ad G (snp T n mo) Hs Xt (xHi sl) Qs Ks Lo Wi) (congrArg (fun z_ => wM ad G (snp T n mo) Hs Xt z_ Qs Ks Lo Wi) (show 1 = (xHi sl) by simp [xHi, *])) ?_
    exact v_iret F hr hlk hQ dX8_highest_25 (((snp T n mo), Hs, Xt, Qs, Ks, Lo, Wi)) rfl (by first | (refine ⟨fun q => absurd q ?_, fun _ => ⟨rfl, rfl, rfl⟩⟩; simp [xHi, *]; done) | (refine ⟨fun _ => ⟨?_, ?_, ?_, ?_⟩, fun q => absurd ?_ q⟩; (rfl); (rfl); (rfl); (rfl); simp [xHi, *]; done))
  · replace c4 := bI_t c4
    refine v_aload_n F dX8_highest_12 0 rfl rfl ?_
    refine v_iload_n F dX8_highest_13 1 rfl rfl ?_
    refine v_cVIF F cs_RX8_205 dX8_highest_14 0 (ci := 8) rfl rfl (m_X8_highestOf lau G ad T n mo Hs Xt (0) Qs Ks Lo Wi sl (by omega)) (by decide) rfl rfl (Nat.le_of_ble_eq_true rfl) ⟨Nat.zero_le _, Nat.zero_le _⟩ (fun r8 u9 w10 => ?_)
    refine v_topi ((hiC T n mo sl)) w10 ?_
    refine v_goto F 25 dX8_highest_17 (by decide) ?_
    refine v_w (w' := wM ad G (snp T n mo) Hs Xt (xHi sl) Qs Ks u9 Wi) (congrArg (fun z_ => wM ad G (snp T n mo) Hs Xt z_ Qs Ks u9 Wi) (show (0) = (xHi sl) by simp [xHi, *])) ?_
    exact v_iret F hr hlk hQ dX8_highest_25 (((snp T n mo), Hs, Xt, Qs, Ks, u9, Wi)) rfl (by first | (refine ⟨fun q => absurd q ?_, fun _ => ⟨rfl, rfl, rfl⟩⟩; simp [xHi, *]; done) | (refine ⟨fun _ => ⟨?_, ?_, ?_, ?_⟩, fun q => absurd ?_ q⟩; (rfl); (rfl); (rfl); (rfl); simp [xHi, *]; done))
theorem cs_RX8_208 : CSV RX8 208 RX8 yX8_worthOf cX8_worthOf 5 (some .int) 1 := ⟨wC_yX8_worthOf, wM_RX8_208, wIm_yX8_worthOf, wSe_yX8_worthOf, wI_RX8, by decide +kernel, by decide⟩
set_option maxHeartbeats 400000 in
set_option maxRecDepth 100000 in
theorem m_X8_worth (lau : Launch) (G : GT) (ad : Nat → Nat) (T : Nat → Int32) (n mo : Nat) (Hs : HT) (Xt : XT) (Tw : Nat) (Qs : QT) (Ks : KS) (Lo Wi : Nat → Int32) (line : Int32) (hn : n ≤ 20) : MI lau G 6 yX8_worth cX8_worth 2 (some .int) [.ref (ad 0), .int line] (wM ad G (snp T n mo) Hs Xt Tw Qs Ks Lo Wi) (fun u : MS => wM ad G u.1 u.2.1 u.2.2.1 (xWo n line) u.2.2.2.1 u.2.2.2.2.1 u.2.2.2.2.2.1 u.2.2.2.2.2.2) (fun r u => (xWo n line = 0 → r = woV T n mo line.toNatClampNeg ∧ u.1 = snp T n mo ∧ u.2.1 = Hs ∧ u.2.2.1 = Xt) ∧ (¬ xWo n line = 0 → u.1 = snp T n mo ∧ u.2.1 = Hs ∧ u.2.2.1 = Xt)) := by
  refine mi_of (by decide +kernel) (Nat.le_of_ble_eq_true rfl) ?_
  intro p e s m args below meth c A Q F hr hlk hQ
  refine v_st (w' := wM ad G (snp T n mo) Hs Xt Tw Qs Ks Lo Wi) (pc' := 0) (st' := []) rfl rfl rfl [0, 1] (lv' := [(0, .ref (ad 0)), (1, .int line)]) rfl ?_
  refine v_aload_n F dX8_worth_0 0 rfl rfl ?_
  refine v_iconst (v := nI 0) F dX8_worth_1 (by decide) ?_
  refine v_put F inlX8 (ci := 8) rfl tyX8 tyX8_ok nmX8 5 (by decide) rfl rfl wF_RX8_35 dX8_worth_2 (ty := .int) (by decide +kernel) rfl rfl 0 rfl (Nat.le_of_ble_eq_true rfl) (wM ad G (snp T n mo) Hs Xt (0) Qs Ks Lo Wi) rfl ?_
  refine v_aload_n F dX8_worth_5 0 rfl rfl ?_
  refine v_iload_n F dX8_worth_6 1 rfl rfl ?_
  refine v_cVIF F cs_RX8_78 dX8_worth_7 0 (ci := 8) rfl rfl (m_X8_isLine lau G ad T n mo Hs Xt (0) Qs Ks Lo Wi line (by omega)) (by decide) rfl rfl (Nat.le_of_ble_eq_true rfl) ⟨Nat.zero_le _, Nat.zero_le _⟩ (fun r1 u2 w3 => ?_)
  subst w3
  refine v_if_eq F 21 dX8_worth_10 (by decide) (fun c4 => ?_) (fun c4 => ?_)
  · replace c4 := bI_f c4
    refine v_aload_n F dX8_worth_21 0 rfl rfl ?_
    refine v_iconst (v := nI 1) F dX8_worth_22 (by decide) ?_
    refine v_cVIF F cs_RX8_46 dX8_worth_23 0 (ci := 8) rfl rfl (m_X8_fails lau G ad (snp T n mo) Hs Xt (0) Qs Ks Lo Wi 1 ) (by decide) rfl rfl (Nat.le_of_ble_eq_true rfl) ⟨Nat.zero_le _, Nat.zero_le _⟩ (fun r5 u6 w7 => ?_)
    subst w7
    refine v_w (w' := wM ad G (snp T n mo) Hs Xt (xWo n line) Qs Ks Lo Wi) (congrArg (fun z_ => wM ad G (snp T n mo) Hs Xt z_ Qs Ks Lo Wi) (show 1 = (xWo n line) by simp [xWo, *])) ?_
    exact v_iret F hr hlk hQ dX8_worth_26 (((snp T n mo), Hs, Xt, Qs, Ks, Lo, Wi)) rfl (by first | (refine ⟨fun q => absurd q ?_, fun _ => ⟨rfl, rfl, rfl⟩⟩; simp [xWo, *]; done) | (refine ⟨fun _ => ⟨?_, ?_, ?_, ?_⟩, fun q => absurd ?_ q⟩; (rw [hc_li]); (rfl); (rfl); (rfl); simp [xWo, *]; done))
  · replace c4 := bI_t c4
    obtain ⟨li, hb0, rfl⟩ := hasB_of (by omega) c4
    have hc_li : (nI li).toNatClampNeg = li := nI_clamp (by omega)
    refine v_aload_n F dX8_worth_13 0 rfl rfl ?_
    refine v_iload_n F dX8_worth_14 1 rfl rfl ?_
    refine v_cVIF F cs_RX8_208 dX8_worth_15 0 (ci := 8) rfl rfl (m_X8_worthOf lau G ad T n mo Hs Xt (0) Qs Ks Lo Wi li (by omega) (by omega)) (by decide) rfl rfl (Nat.le_of_ble_eq_true rfl) ⟨Nat.zero_le _, Nat.zero_le _⟩ (fun r8 u9 w10 => ?_)
    refine v_topi ((woV T n mo li)) w10 ?_
    refine v_goto F 26 dX8_worth_18 (by decide) ?_
    refine v_w (w' := wM ad G (snp T n mo) Hs Xt (xWo n (nI li)) Qs Ks u9 Wi) (congrArg (fun z_ => wM ad G (snp T n mo) Hs Xt z_ Qs Ks u9 Wi) (show (0) = (xWo n (nI li)) by simp [xWo, *])) ?_
    exact v_iret F hr hlk hQ dX8_worth_26 (((snp T n mo), Hs, Xt, Qs, Ks, u9, Wi)) rfl (by first | (refine ⟨fun q => absurd q ?_, fun _ => ⟨rfl, rfl, rfl⟩⟩; simp [xWo, *]; done) | (refine ⟨fun _ => ⟨?_, ?_, ?_, ?_⟩, fun q => absurd ?_ q⟩; (rw [hc_li]); (rfl); (rfl); (rfl); simp [xWo, *]; done))
theorem cs_RX8_211 : CSV RX8 211 RX8 yX8_changeAt cX8_changeAt 4 (some .int) 1 := ⟨wC_yX8_changeAt, wM_RX8_211, wIm_yX8_changeAt, wSe_yX8_changeAt, wI_RX8, by decide +kernel, by decide⟩
set_option maxHeartbeats 400000 in
set_option maxRecDepth 100000 in
theorem m_X8_changesAt (lau : Launch) (G : GT) (ad : Nat → Nat) (T : Nat → Int32) (n mo : Nat) (Hs : HT) (Xt : XT) (Tw : Nat) (Qs : QT) (Ks : KS) (Lo Wi : Nat → Int32) (x_ : Int32) (hn : n ≤ 20) (hmo : mo < 100) : MI lau G 6 yX8_changesAt cX8_changesAt 2 (some .int) [.ref (ad 0), .int x_] (wM ad G (snp T n mo) Hs Xt Tw Qs Ks Lo Wi) (fun u : MS => wM ad G u.1 u.2.1 u.2.2.1 (xCh x_) u.2.2.2.1 u.2.2.2.2.1 u.2.2.2.2.2.1 u.2.2.2.2.2.2) (fun r u => (xCh x_ = 0 → r = chA T n mo x_.toNatClampNeg ∧ u.1 = snp T n mo ∧ u.2.1 = Hs ∧ u.2.2.1 = Xt) ∧ (¬ xCh x_ = 0 → u.1 = snp T n mo ∧ u.2.1 = Hs ∧ u.2.2.1 = Xt)) := by
  refine mi_of (by decide +kernel) (Nat.le_of_ble_eq_true rfl) ?_
  intro p e s m args below meth c A Q F hr hlk hQ
  refine v_st (w' := wM ad G (snp T n mo) Hs Xt Tw Qs Ks Lo Wi) (pc' := 0) (st' := []) rfl rfl rfl [0, 1] (lv' := [(0, .ref (ad 0)), (1, .int x_)]) rfl ?_
  refine v_aload_n F dX8_changesAt_0 0 rfl rfl ?_
  refine v_iconst (v := nI 0) F dX8_changesAt_1 (by decide) ?_
  refine v_put F inlX8 (ci := 8) rfl tyX8 tyX8_ok nmX8 5 (by decide) rfl rfl wF_RX8_35 dX8_changesAt_2 (ty := .int) (by decide +kernel) rfl rfl 0 rfl (Nat.le_of_ble_eq_true rfl) (wM ad G (snp T n mo) Hs Xt (0) Qs Ks Lo Wi) rfl ?_
  refine v_iload_n F dX8_changesAt_5 1 rfl rfl ?_
  refine v_cSIE F cs_RX8_81 dX8_changesAt_6 (m_X8_isPlace lau G x_ ) (by decide) rfl rfl (Nat.le_of_ble_eq_true rfl) ⟨Nat.zero_le _, Nat.zero_le _⟩ (fun r1 u2 w3 => ?_)
  subst w3
  refine v_if_eq F 20 dX8_changesAt_9 (by decide) (fun c4 => ?_) (fun c4 => ?_)
  · replace c4 := bI_f c4
    refine v_aload_n F dX8_changesAt_20 0 rfl rfl ?_
    refine v_iconst (v := nI 1) F dX8_changesAt_21 (by decide) ?_
    refine v_cVIF F cs_RX8_46 dX8_changesAt_22 0 (ci := 8) rfl rfl (m_X8_fails lau G ad (snp T n mo) Hs Xt (0) Qs Ks Lo Wi 1 ) (by decide) rfl rfl (Nat.le_of_ble_eq_true rfl) ⟨Nat.zero_le _, Nat.zero_le _⟩ (fun r5 u6 w7 => ?_)
    subst w7
    refine v_w (w' := wM ad G (snp T n mo) Hs Xt (xCh x_) Qs Ks Lo Wi) (congrArg (fun z_ => wM ad G (snp T n mo) Hs Xt z_ Qs Ks Lo Wi) (show 1 = (xCh x_) by simp [xCh, *])) ?_
    exact v_iret F hr hlk hQ dX8_changesAt_25 (((snp T n mo), Hs, Xt, Qs, Ks, Lo, Wi)) rfl (by first | (refine ⟨fun q => absurd q ?_, fun _ => ⟨rfl, rfl, rfl⟩⟩; simp [xCh, *]; done) | (refine ⟨fun _ => ⟨?_, ?_, ?_, ?_⟩, fun q => absurd ?_ q⟩; (rw [hc_x]); (rfl); (rfl); (rfl); simp [xCh, *]; done))
  · replace c4 := bI_t c4
    obtain ⟨x, hb0, rfl⟩ := plB_of c4
    have hc_x : (nI x).toNatClampNeg = x := nI_clamp (by omega)
    refine v_aload_n F dX8_changesAt_12 0 rfl rfl ?_
    refine v_iload_n F dX8_changesAt_13 1 rfl rfl ?_
    refine v_cVIF F cs_RX8_211 dX8_changesAt_14 0 (ci := 8) rfl rfl (m_X8_changeAt lau G ad T n mo Hs Xt (0) Qs Ks Lo Wi x (by omega) (by omega)) (by decide) rfl rfl (Nat.le_of_ble_eq_true rfl) ⟨Nat.zero_le _, Nat.zero_le _⟩ (fun r8 u9 w10 => ?_)
    refine v_topi ((chA T n mo x)) w10 ?_
    refine v_goto F 25 dX8_changesAt_17 (by decide) ?_
    refine v_w (w' := wM ad G (snp T n mo) Hs Xt (xCh (nI x)) Qs Ks Lo Wi) (congrArg (fun z_ => wM ad G (snp T n mo) Hs Xt z_ Qs Ks Lo Wi) (show (0) = (xCh (nI x)) by simp [xCh, *])) ?_
    exact v_iret F hr hlk hQ dX8_changesAt_25 (((snp T n mo), Hs, Xt, Qs, Ks, Lo, Wi)) rfl (by first | (refine ⟨fun q => absurd q ?_, fun _ => ⟨rfl, rfl, rfl⟩⟩; simp [xCh, *]; done) | (refine ⟨fun _ => ⟨?_, ?_, ?_, ?_⟩, fun q => absurd ?_ q⟩; (rw [hc_x]); (rfl); (rfl); (rfl); simp [xCh, *]; done))
theorem cs_RX8_214 : CSV RX8 214 RX8 yX8_meetOf cX8_meetOf 5 (some .int) 2 := ⟨wC_yX8_meetOf, wM_RX8_214, wIm_yX8_meetOf, wSe_yX8_meetOf, wI_RX8, by decide +kernel, by decide⟩
set_option maxHeartbeats 400000 in
set_option maxRecDepth 100000 in
theorem m_X8_meet (lau : Launch) (G : GT) (ad : Nat → Nat) (T : Nat → Int32) (n mo : Nat) (Hs : HT) (Xt : XT) (Tw : Nat) (Qs : QT) (Ks : KS) (Lo Wi : Nat → Int32) (a_ b_ : Int32) (hn : n ≤ 20) : MI lau G 6 yX8_meet cX8_meet 3 (some .int) [.ref (ad 0), .int a_, .int b_] (wM ad G (snp T n mo) Hs Xt Tw Qs Ks Lo Wi) (fun u : MS => wM ad G u.1 u.2.1 u.2.2.1 (xMe n a_ b_) u.2.2.2.1 u.2.2.2.2.1 u.2.2.2.2.2.1 u.2.2.2.2.2.2) (fun r u => (xMe n a_ b_ = 0 → r = meV T a_.toNatClampNeg b_.toNatClampNeg ∧ u.1 = snp T n mo ∧ u.2.1 = Hs ∧ u.2.2.1 = Xt) ∧ (¬ xMe n a_ b_ = 0 → u.1 = snp T n mo ∧ u.2.1 = Hs ∧ u.2.2.1 = Xt)) := by
  refine mi_of (by decide +kernel) (Nat.le_of_ble_eq_true rfl) ?_
  intro p e s m args below meth c A Q F hr hlk hQ
  refine v_st (w' := wM ad G (snp T n mo) Hs Xt Tw Qs Ks Lo Wi) (pc' := 0) (st' := []) rfl rfl rfl [0, 1, 2] (lv' := [(0, .ref (ad 0)), (1, .int a_), (2, .int b_)]) rfl ?_
  refine v_aload_n F dX8_meet_0 0 rfl rfl ?_
  refine v_iconst (v := nI 0) F dX8_meet_1 (by decide) ?_
  refine v_put F inlX8 (ci := 8) rfl tyX8 tyX8_ok nmX8 5 (by decide) rfl rfl wF_RX8_35 dX8_meet_2 (ty := .int) (by decide +kernel) rfl rfl 0 rfl (Nat.le_of_ble_eq_true rfl) (wM ad G (snp T n mo) Hs Xt (0) Qs Ks Lo Wi) rfl ?_
  refine v_aload_n F dX8_meet_5 0 rfl rfl ?_
  refine v_iload_n F dX8_meet_6 1 rfl rfl ?_
  refine v_cVIF F cs_RX8_78 dX8_meet_7 0 (ci := 8) rfl rfl (m_X8_isLine lau G ad T n mo Hs Xt (0) Qs Ks Lo Wi a_ (by omega)) (by decide) rfl rfl (Nat.le_of_ble_eq_true rfl) ⟨Nat.zero_le _, Nat.zero_le _⟩ (fun r1 u2 w3 => ?_)
  subst w3
  refine v_if_eq F 21 dX8_meet_10 (by decide) (fun c4 => ?_) (fun c4 => ?_)
  · replace c4 := bI_f c4
    refine v_aload_n F dX8_meet_21 0 rfl rfl ?_
    refine v_iconst (v := nI 1) F dX8_meet_22 (by decide) ?_
    refine v_cVIF F cs_RX8_46 dX8_meet_23 0 (ci := 8) rfl rfl (m_X8_fails lau G ad (snp T n mo) Hs Xt (0) Qs Ks Lo Wi 1 ) (by decide) rfl rfl (Nat.le_of_ble_eq_true rfl) ⟨Nat.zero_le _, Nat.zero_le _⟩ (fun r5 u6 w7 => ?_)
    subst w7
    refine v_w (w' := wM ad G (snp T n mo) Hs Xt (xMe n a_ b_) Qs Ks Lo Wi) (congrArg (fun z_ => wM ad G (snp T n mo) Hs Xt z_ Qs Ks Lo Wi) (show 1 = (xMe n a_ b_) by simp [xMe, *])) ?_
    exact v_iret F hr hlk hQ dX8_meet_26 (((snp T n mo), Hs, Xt, Qs, Ks, Lo, Wi)) rfl (by first | (refine ⟨fun q => absurd q ?_, fun _ => ⟨rfl, rfl, rfl⟩⟩; simp [xMe, *]; done) | (refine ⟨fun _ => ⟨?_, ?_, ?_, ?_⟩, fun q => absurd ?_ q⟩; (rw [hc_a, hc_b]); (rfl); (rfl); (rfl); simp [xMe, *]; done))
  · replace c4 := bI_t c4
    obtain ⟨a, hb0, rfl⟩ := hasB_of (by omega) c4
    have hc_a : (nI a).toNatClampNeg = a := nI_clamp (by omega)
    refine v_aload_n F dX8_meet_13 0 rfl rfl ?_
    refine v_iload_n F dX8_meet_14 2 rfl rfl ?_
    refine v_cVIF F cs_RX8_78 dX8_meet_15 0 (ci := 8) rfl rfl (m_X8_isLine lau G ad T n mo Hs Xt (0) Qs Ks Lo Wi b_ (by omega)) (by decide) rfl rfl (Nat.le_of_ble_eq_true rfl) ⟨Nat.zero_le _, Nat.zero_le _⟩ (fun r8 u9 w10 => ?_)
    subst w10
    refine v_if_ne F 27 dX8_meet_18 (by decide) (fun c11 => ?_) (fun c11 => ?_)
    · replace c11 := bI_t c11
      obtain ⟨b, hb1, rfl⟩ := hasB_of (by omega) c11
      have hc_b : (nI b).toNatClampNeg = b := nI_clamp (by omega)
      refine v_iload_n F dX8_meet_27 1 rfl rfl ?_
      refine v_iload_n F dX8_meet_28 2 rfl rfl ?_
      refine v_icmp_ne F 40 dX8_meet_29 (by decide) (fun c12 => ?_) (fun c12 => ?_)
      · replace c12 := nEn (a := a) (b := b) (by omega) (by omega) c12
        have hab : ¬ nI a = nI b := fun q => c12 ((nI_eq (by omega) (by omega)).mp q)
        refine v_aload_n F dX8_meet_40 0 rfl rfl ?_
        refine v_iload_n F dX8_meet_41 1 rfl rfl ?_
        refine v_iload_n F dX8_meet_42 2 rfl rfl ?_
        refine v_cVIF F cs_RX8_214 dX8_meet_43 0 (ci := 8) rfl rfl (m_X8_meetOf lau G ad T n mo Hs Xt (0) Qs Ks Lo Wi a b (by omega) (by omega) (by omega)) (by decide) rfl rfl (Nat.le_of_ble_eq_true rfl) ⟨Nat.zero_le _, Nat.zero_le _⟩ (fun r13 u14 w15 => ?_)
        refine v_topi ((meV T a b)) w15 ?_
        refine v_w (w' := wM ad G (snp T n mo) Hs Xt (xMe n (nI a) (nI b)) Qs Ks Lo Wi) (congrArg (fun z_ => wM ad G (snp T n mo) Hs Xt z_ Qs Ks Lo Wi) (show (0) = (xMe n (nI a) (nI b)) by simp [xMe, *])) ?_
        exact v_iret F hr hlk hQ dX8_meet_46 (((snp T n mo), Hs, Xt, Qs, Ks, Lo, Wi)) rfl (by first | (refine ⟨fun q => absurd q ?_, fun _ => ⟨rfl, rfl, rfl⟩⟩; simp [xMe, *]; done) | (refine ⟨fun _ => ⟨?_, ?_, ?_, ?_⟩, fun q => absurd ?_ q⟩; (rw [hc_a, hc_b]); (rfl); (rfl); (rfl); simp [xMe, *]; done))
      · replace c12 := nE (a := a) (b := b) (by omega) (by omega) c12
        refine v_aload_n F dX8_meet_32 0 rfl rfl ?_
        refine v_iconst (v := nI 2) F dX8_meet_33 (by decide) ?_
        refine v_cVIF F cs_RX8_46 dX8_meet_34 0 (ci := 8) rfl rfl (m_X8_fails lau G ad (snp T n mo) Hs Xt (0) Qs Ks Lo Wi 2 ) (by decide) rfl rfl (Nat.le_of_ble_eq_true rfl) ⟨Nat.zero_le _, Nat.zero_le _⟩ (fun r16 u17 w18 => ?_)
        subst w18
        refine v_goto F 46 dX8_meet_37 (by decide) ?_
        refine v_w (w' := wM ad G (snp T n mo) Hs Xt (xMe n (nI a) (nI b)) Qs Ks Lo Wi) (congrArg (fun z_ => wM ad G (snp T n mo) Hs Xt z_ Qs Ks Lo Wi) (show 2 = (xMe n (nI a) (nI b)) by simp [xMe, *])) ?_
        exact v_iret F hr hlk hQ dX8_meet_46 (((snp T n mo), Hs, Xt, Qs, Ks, Lo, Wi)) rfl (by first | (refine ⟨fun q => absurd q ?_, fun _ => ⟨rfl, rfl, rfl⟩⟩; simp [xMe, *]; done) | (refine ⟨fun _ => ⟨?_, ?_, ?_, ?_⟩, fun q => absurd ?_ q⟩; (rw [hc_a, hc_b]); (rfl); (rfl); (rfl); simp [xMe, *]; done))
    · replace c11 := bI_f c11
      refine v_aload_n F dX8_meet_21 0 rfl rfl ?_
      refine v_iconst (v := nI 1) F dX8_meet_22 (by decide) ?_
      refine v_cVIF F cs_RX8_46 dX8_meet_23 0 (ci := 8) rfl rfl (m_X8_fails lau G ad (snp T n mo) Hs Xt (0) Qs Ks Lo Wi 1 ) (by decide) rfl rfl (Nat.le_of_ble_eq_true rfl) ⟨Nat.zero_le _, Nat.zero_le _⟩ (fun r19 u20 w21 => ?_)
      subst w21
      refine v_w (w' := wM ad G (snp T n mo) Hs Xt (xMe n (nI a) b_) Qs Ks Lo Wi) (congrArg (fun z_ => wM ad G (snp T n mo) Hs Xt z_ Qs Ks Lo Wi) (show 1 = (xMe n (nI a) b_) by simp [xMe, *])) ?_
      exact v_iret F hr hlk hQ dX8_meet_26 (((snp T n mo), Hs, Xt, Qs, Ks, Lo, Wi)) rfl (by first | (refine ⟨fun q => absurd q ?_, fun _ => ⟨rfl, rfl, rfl⟩⟩; simp [xMe, *]; done) | (refine ⟨fun _ => ⟨?_, ?_, ?_, ?_⟩, fun q => absurd ?_ q⟩; (rw [hc_a, hc_b]); (rfl); (rfl); (rfl); simp [xMe, *]; done))
theorem cs_RX8_217 : CSV RX8 217 RX8 yX8_meanOf cX8_meanOf 2 (some .double) 0 := ⟨wC_yX8_meanOf, wM_RX8_217, wIm_yX8_meanOf, wSe_yX8_meanOf, wI_RX8, by decide +kernel, by decide⟩
set_option maxHeartbeats 400000 in
set_option maxRecDepth 100000 in
theorem m_X8_mean (lau : Launch) (G : GT) (ad : Nat → Nat) (T : Nat → Int32) (n mo : Nat) (Hs : HT) (Xt : XT) (Tw : Nat) (Qs : QT) (Ks : KS) (Lo Wi : Nat → Int32) (hn : n ≤ 20) : MD lau G 6 yX8_mean cX8_mean 1 (some .double) [.ref (ad 0)] (wM ad G (snp T n mo) Hs Xt Tw Qs Ks Lo Wi) (fun u : MS => wM ad G u.1 u.2.1 u.2.2.1 (0) u.2.2.2.1 u.2.2.2.2.1 u.2.2.2.2.2.1 u.2.2.2.2.2.2) (fun r u => (0 = 0 → r = meanV T n mo ∧ u.1 = snp T n mo ∧ u.2.1 = Hs ∧ u.2.2.1 = Xt) ∧ (¬ 0 = 0 → u.1 = snp T n mo ∧ u.2.1 = Hs ∧ u.2.2.1 = Xt)) := by
  refine md_of (by decide +kernel) (Nat.le_of_ble_eq_true rfl) ?_
  intro p e s m args below meth c A Q F hr hlk hQ
  refine v_st (w' := wM ad G (snp T n mo) Hs Xt Tw Qs Ks Lo Wi) (pc' := 0) (st' := []) rfl rfl rfl [0] (lv' := [(0, .ref (ad 0))]) rfl ?_
  refine v_aload_n F dX8_mean_0 0 rfl rfl ?_
  refine v_iconst (v := nI 0) F dX8_mean_1 (by decide) ?_
  refine v_put F inlX8 (ci := 8) rfl tyX8 tyX8_ok nmX8 5 (by decide) rfl rfl wF_RX8_35 dX8_mean_2 (ty := .int) (by decide +kernel) rfl rfl 0 rfl (Nat.le_of_ble_eq_true rfl) (wM ad G (snp T n mo) Hs Xt (0) Qs Ks Lo Wi) rfl ?_
  refine v_aload_n F dX8_mean_5 0 rfl rfl ?_
  refine v_cVDF F cs_RX8_217 dX8_mean_6 0 (ci := 8) rfl rfl (m_X8_meanOf lau G ad T n mo Hs Xt (0) Qs Ks Lo Wi (by omega)) (by decide) rfl rfl (Nat.le_of_ble_eq_true rfl) ⟨Nat.zero_le _, Nat.zero_le _⟩ (fun r1 u2 w3 => ?_)
  refine v_topd (meanV T n mo) w3 ?_
  exact v_dret F hr hlk hQ dX8_mean_9 (((snp T n mo), Hs, Xt, Qs, Ks, u2, Wi)) rfl (by first | (refine ⟨fun q => absurd q ?_, fun _ => ⟨rfl, rfl, rfl⟩⟩; simp; done) | (refine ⟨fun _ => ⟨?_, ?_, ?_, ?_⟩, fun q => absurd ?_ q⟩; (rfl); (rfl); (rfl); (rfl); simp; done))
