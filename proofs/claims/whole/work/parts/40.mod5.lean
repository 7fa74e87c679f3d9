set_option maxHeartbeats 400000 in
set_option maxRecDepth 100000 in
theorem m_X8_firstMoment (lau : Launch) (G : GT) (ad : Nat → Nat) (T : Nat → Int32) (n mo : Nat) (Hs : HT) (Xt : XT) (Tw : Nat) (Qs : QT) (Ks : KS) (Lo Wi : Nat → Int32) (l : Nat) (hl : l < n) (hn : n ≤ 20) (hT : TOK T n) : MI lau G 4 yX8_firstMoment cX8_firstMoment 4 (some .int) [.ref (ad 0), .int (nI l)] (wM ad G (snp T n mo) Hs Xt Tw Qs Ks Lo Wi) (fun u : Unit => wM ad G (snp T n mo) Hs Xt Tw Qs Ks Lo Wi) (fun r u => r = (fmo T n l)) := by
  obtain ⟨-, -, ⟨c2, d3, e2, e3, hcd, hd⟩, a4, b5, e4, e5, hab, hb5⟩ := hT l hl
  refine mi_of (by decide +kernel) (Nat.le_of_ble_eq_true rfl) ?_
  intro p e s m args below meth c A Q F hr hlk hQ
  refine v_st (w' := wM ad G (snp T n mo) Hs Xt Tw Qs Ks Lo Wi) (pc' := 0) (st' := []) rfl rfl rfl [0, 1] (lv' := [(0, .ref (ad 0)), (1, .int (nI l))]) rfl ?_
  refine v_aload_n F dX8_firstMoment_0 0 rfl rfl ?_
  refine v_iload_n F dX8_firstMoment_1 1 rfl rfl ?_
  refine v_iconst (v := nI 4) F dX8_firstMoment_2 (by decide) ?_
  refine v_cVIF F cs_RX8_50 dX8_firstMoment_3 0 (ci := 8) rfl rfl (m_X8_of lau G ad T n mo Hs Xt Tw Qs Ks Lo Wi l 4 (by omega) (by omega)) (by decide) rfl rfl (Nat.le_of_ble_eq_true rfl) ⟨Nat.zero_le _, Nat.zero_le _⟩ (fun r1 u2 w3 => ?_)
  subst w3
  refine v_topi (nI a4) (e4) ?_
  refine v_istore_n (lv' := [(2, .int (nI a4)), (0, .ref (ad 0)), (1, .int (nI l))]) F dX8_firstMoment_6 2 rfl (by decide) rfl ?_
  have L7 : ∀ (k_ : Nat) (t : Nat), b5 + 1 - t < k_ → (t ≤ b5 + 1) → (∀ j, j < t → anx T n l j = false) → V p lau e (RM 4) s m args below meth c 4 G A Q (wM ad G (snp T n mo) Hs Xt Tw Qs Ks Lo Wi) 0 0 7 [(2, .int (nI t)), (0, .ref (ad 0)), (1, .int (nI l))] [] := by
    intro k_
    induction k_ with
    | zero => exact fun t hk_ ht hno => absurd hk_ (Nat.not_lt_zero _)
    | succ k_ ih7 =>
      intro t hk_7 ht hno
      refine v_iload_n F dX8_firstMoment_7 2 rfl rfl ?_
      refine v_aload_n F dX8_firstMoment_8 0 rfl rfl ?_
      refine v_iload_n F dX8_firstMoment_9 1 rfl rfl ?_
      refine v_iconst (v := nI 5) F dX8_firstMoment_10 (by decide) ?_
      refine v_cVIF F cs_RX8_50 dX8_firstMoment_11 0 (ci := 8) rfl rfl (m_X8_of lau G ad T n mo Hs Xt Tw Qs Ks Lo Wi l 5 (by omega) (by omega)) (by decide) rfl rfl (Nat.le_of_ble_eq_true rfl) ⟨Nat.zero_le _, Nat.zero_le _⟩ (fun r4 u5 w6 => ?_)
      subst w6
      refine v_topi (nI b5) (e5) ?_
      refine v_icmp_gt F 59 dX8_firstMoment_14 (by decide) (fun c7 => ?_) (fun c7 => ?_)
      · replace c7 := nT (a := t) (b := b5) (by omega) (by omega) c7
        refine v_iconst (v := (-1)) F dX8_firstMoment_59 (by decide) ?_
        exact v_iret F hr hlk hQ dX8_firstMoment_60 (()) rfl (by exact fm_n hT hl e5 hb5 (by omega) hno)
      · replace c7 := nTn (a := t) (b := b5) (by omega) (by omega) c7
        refine v_aload_n F dX8_firstMoment_17 0 rfl rfl ?_
        refine v_iload_n F dX8_firstMoment_18 1 rfl rfl ?_
        refine v_iconst (v := nI 2) F dX8_firstMoment_19 (by decide) ?_
        refine v_cVIF F cs_RX8_50 dX8_firstMoment_20 0 (ci := 8) rfl rfl (m_X8_of lau G ad T n mo Hs Xt Tw Qs Ks Lo Wi l 2 (by omega) (by omega)) (by decide) rfl rfl (Nat.le_of_ble_eq_true rfl) ⟨Nat.zero_le _, Nat.zero_le _⟩ (fun r8 u9 w10 => ?_)
        subst w10
        refine v_topi (nI c2) (e2) ?_
        refine v_istore_n (lv' := [(3, .int (nI c2)), (2, .int (nI t)), (0, .ref (ad 0)), (1, .int (nI l))]) F dX8_firstMoment_23 3 rfl (by decide) rfl ?_
        have L24 : ∀ (k_ : Nat) (x : Nat), d3 + 1 - x < k_ → (x ≤ d3 + 1) → (∀ j, c2 ≤ j → j < x → ¬ lb T j t (-1) n = some l) → V p lau e (RM 4) s m args below meth c 4 G A Q (wM ad G (snp T n mo) Hs Xt Tw Qs Ks Lo Wi) 0 0 24 [(3, .int (nI x)), (2, .int (nI t)), (0, .ref (ad 0)), (1, .int (nI l))] [] := by
          intro k_
          induction k_ with
          | zero => exact fun x hk_ hx hnx => absurd hk_ (Nat.not_lt_zero _)
          | succ k_ ih24 =>
            intro x hk_24 hx hnx
            refine v_iload_n F dX8_firstMoment_24 3 rfl rfl ?_
            refine v_aload_n F dX8_firstMoment_25 0 rfl rfl ?_
            refine v_iload_n F dX8_firstMoment_26 1 rfl rfl ?_
            refine v_iconst (v := nI 3) F dX8_firstMoment_27 (by decide) ?_
            refine v_cVIF F cs_RX8_50 dX8_firstMoment_28 0 (ci := 8) rfl rfl (m_X8_of lau G ad T n mo Hs Xt Tw Qs Ks Lo Wi l 3 (by omega) (by omega)) (by decide) rfl rfl (Nat.le_of_ble_eq_true rfl) ⟨Nat.zero_le _, Nat.zero_le _⟩ (fun r11 u12 w13 => ?_)
            subst w13
            refine v_topi (nI d3) (e3) ?_
            refine v_icmp_gt F 53 dX8_firstMoment_31 (by decide) (fun c14 => ?_) (fun c14 => ?_)
            · replace c14 := nT (a := x) (b := d3) (by omega) (by omega) c14
              have hax := fm_in hl e2 e3 hcd hd c14 hnx
              refine v_iinc (lv' := [(2, .int (nI (t + 1))), (3, .int (nI x)), (0, .ref (ad 0)), (1, .int (nI l))]) F (nI (t + 1)) dX8_firstMoment_53 rfl (nI_add t 1) (by decide) rfl ?_
              refine v_goto F 7 dX8_firstMoment_56 (by decide) ?_
              refine v_st (w' := wM ad G (snp T n mo) Hs Xt Tw Qs Ks Lo Wi) (pc' := 7) (st' := []) rfl rfl rfl [0, 2, 3] (lv' := [(2, .int (nI (t + 1))), (0, .ref (ad 0)), (1, .int (nI l))]) rfl ?_
              exact ih7 (t + 1) (by omega) (by omega) (lf_s hno hax)
            · replace c14 := nTn (a := x) (b := d3) (by omega) (by omega) c14
              refine v_aload_n F dX8_firstMoment_34 0 rfl rfl ?_
              refine v_iload_n F dX8_firstMoment_35 3 rfl rfl ?_
              refine v_iload_n F dX8_firstMoment_36 2 rfl rfl ?_
              refine v_iconst (v := (-1)) F dX8_firstMoment_37 (by decide) ?_
              refine v_cVIF F cs_RX8_60 dX8_firstMoment_38 0 (ci := 8) rfl rfl (m_X8_lowestBut lau G ad T n mo Hs Xt Tw Qs Ks Lo Wi x t (-1) (by omega)) (by decide) rfl rfl (Nat.le_of_ble_eq_true rfl) ⟨Nat.zero_le _, Nat.zero_le _⟩ (fun r15 u16 w17 => ?_)
              subst w17
              refine v_iload_n F dX8_firstMoment_41 1 rfl rfl ?_
              refine v_icmp_ne F 47 dX8_firstMoment_42 (by decide) (fun h42 => ?_) (fun h42 => ?_)
              · refine v_iinc (lv' := [(3, .int (nI (x + 1))), (2, .int (nI t)), (0, .ref (ad 0)), (1, .int (nI l))]) F (nI (x + 1)) dX8_firstMoment_47 rfl (nI_add x 1) (by decide) rfl ?_
                refine v_goto F 24 dX8_firstMoment_50 (by decide) ?_
                refine v_st (w' := wM ad G (snp T n mo) Hs Xt Tw Qs Ks Lo Wi) (pc' := 24) (st' := []) rfl rfl rfl [0, 1, 2, 3] (lv' := [(3, .int (nI (x + 1))), (2, .int (nI t)), (0, .ref (ad 0)), (1, .int (nI l))]) rfl ?_
                exact ih24 (x + 1) (by omega) (by omega) (fm_s hnx (fun q => h42 ((oI_eq (by omega) (by omega)).mpr q)))
              · refine v_iload_n F dX8_firstMoment_45 2 rfl rfl ?_
                exact v_iret F hr hlk hQ dX8_firstMoment_46 (()) rfl (by exact fm_y hT (by omega) (by omega) ((oI_eq (by omega) (by omega)).mp h42) hno)
        refine v_st (w' := wM ad G (snp T n mo) Hs Xt Tw Qs Ks Lo Wi) (pc' := 24) (st' := []) rfl rfl rfl [0, 1, 2, 3] (lv' := [(3, .int (nI c2)), (2, .int (nI t)), (0, .ref (ad 0)), (1, .int (nI l))]) rfl ?_
        exact L24 _ c2 (Nat.lt_succ_self _) (by omega) (fun j h1 h2 => by omega)
  refine v_st (w' := wM ad G (snp T n mo) Hs Xt Tw Qs Ks Lo Wi) (pc' := 7) (st' := []) rfl rfl rfl [0, 1, 2] (lv' := [(2, .int (nI a4)), (0, .ref (ad 0)), (1, .int (nI l))]) rfl ?_
  exact L7 _ a4 (Nat.lt_succ_self _) (by omega) (fm_0 hl e4 (by omega))
set_option maxHeartbeats 400000 in
set_option maxRecDepth 100000 in
theorem m_X8_losers (lau : Launch) (G : GT) (ad : Nat → Nat) (T : Nat → Int32) (n mo : Nat) (Hs : HT) (Xt : XT) (Tw : Nat) (Qs : QT) (Ks : KS) (Lo Wi : Nat → Int32) (hn : n ≤ 20) (hT : TOK T n) : MI lau G 4 yX8_losers cX8_losers 4 (some .int) [.ref (ad 0)] (wM ad G (snp T n mo) Hs Xt Tw Qs Ks Lo Wi) (fun u : Nat → Int32 => wM ad G (snp T n mo) Hs Xt Tw Qs Ks Lo u) (fun r u => r = nI (los T n n) ∧ ∀ l, l < 20 → u l = if fmo T n l = -1 then nI 0 else nI 1) := by
  refine mi_of (by decide +kernel) (Nat.le_of_ble_eq_true rfl) ?_
  intro p e s m args below meth c A Q F hr hlk hQ
  refine v_st (w' := wM ad G (snp T n mo) Hs Xt Tw Qs Ks Lo Wi) (pc' := 0) (st' := []) rfl rfl rfl [0] (lv' := [(0, .ref (ad 0))]) rfl ?_
  refine v_iconst (v := nI 0) F dX8_losers_0 (by decide) ?_
  refine v_istore_n (lv' := [(1, .int (nI 0)), (0, .ref (ad 0))]) F dX8_losers_1 1 rfl (by decide) rfl ?_
  have L2 : ∀ (k_ : Nat) (i : Nat), 20 - i < k_ → (i ≤ 20) → V p lau e (RM 4) s m args below meth c 4 G A Q (wM ad G (snp T n mo) Hs Xt Tw Qs Ks Lo (fillF Wi (nI 0) i)) 0 0 2 [(1, .int (nI i)), (0, .ref (ad 0))] [] := by
    intro k_
    induction k_ with
    | zero => exact fun i hk_ hi => absurd hk_ (Nat.not_lt_zero _)
    | succ k_ ih2 =>
      intro i hk_2 hi
      refine v_iload_n F dX8_losers_2 1 rfl rfl ?_
      refine v_bipush (v := nI 20) F dX8_losers_3 (by decide) ?_
      refine v_icmp_ge F 21 dX8_losers_5 (by decide) (fun c1 => ?_) (fun c1 => ?_)
      · replace c1 := nG (a := i) (b := 20) (by omega) (by decide) c1
        have hi9 : i = 20 := by omega
        subst hi9
        refine v_iconst (v := nI 0) F dX8_losers_21 (by decide) ?_
        refine v_istore_n (lv' := [(1, .int (nI 0)), (0, .ref (ad 0))]) F dX8_losers_22 1 rfl (by decide) rfl ?_
        have L23 : ∀ (k_ : Nat) (t : Nat), 100 - t < k_ → (t ≤ 100) → V p lau e (RM 4) s m args below meth c 4 G A Q (wM ad G (snp T n mo) Hs Xt Tw Qs Ks Lo (wt T n (fillF Wi (nI 0) 20) t)) 0 0 23 [(1, .int (nI t)), (0, .ref (ad 0))] [] := by
          intro k_
          induction k_ with
          | zero => exact fun t hk_ ht => absurd hk_ (Nat.not_lt_zero _)
          | succ k_ ih23 =>
            intro t hk_23 ht
            refine v_iload_n F dX8_losers_23 1 rfl rfl ?_
            refine v_bipush (v := nI 100) F dX8_losers_24 (by decide) ?_
            refine v_icmp_ge F 69 dX8_losers_26 (by decide) (fun c2 => ?_) (fun c2 => ?_)
            · replace c2 := nG (a := t) (b := 100) (by omega) (by decide) c2
              have ht9 : t = 100 := by omega
              subst ht9
              refine v_iconst (v := nI 0) F dX8_losers_69 (by decide) ?_
              refine v_istore_n (lv' := [(1, .int (nI 0)), (0, .ref (ad 0))]) F dX8_losers_70 1 rfl (by decide) rfl ?_
              refine v_iconst (v := nI 0) F dX8_losers_71 (by decide) ?_
              refine v_istore_n (lv' := [(2, .int (nI 0)), (1, .int (nI 0)), (0, .ref (ad 0))]) F dX8_losers_72 2 rfl (by decide) rfl ?_
              have L73 : ∀ (k_ : Nat) (l : Nat) (k : Nat), n - l < k_ → (l ≤ n) → (k = los T n l) → V p lau e (RM 4) s m args below meth c 4 G A Q (wM ad G (snp T n mo) Hs Xt Tw Qs Ks Lo (wt T n (fillF Wi (nI 0) 20) 100)) 0 0 73 [(2, .int (nI l)), (1, .int (nI k)), (0, .ref (ad 0))] [] := by
                intro k_
                induction k_ with
                | zero => exact fun l k hk_ hl hk => absurd hk_ (Nat.not_lt_zero _)
                | succ k_ ih73 =>
                  intro l k hk_73 hl hk
                  refine v_iload_n F dX8_losers_73 2 rfl rfl ?_
                  refine v_aload_n F dX8_losers_74 0 rfl rfl ?_
                  refine v_get (v := .ref (ad 1)) F inlX8 (ci := 8) rfl 0 (by decide) rfl wF_RX8_7 dX8_losers_75 0 rfl rfl ?_
                  refine v_iconst (v := nI 1) F dX8_losers_78 (by decide) ?_
                  refine v_ialdN F dX8_losers_79 1 rfl 1 rfl (by omega) (by decide) ((snp T n mo) 1) rfl ?_
                  refine v_topi (nI n) rfl ?_
                  refine v_icmp_ge F 106 dX8_losers_80 (by decide) (fun c3 => ?_) (fun c3 => ?_)
                  · replace c3 := nG (a := l) (b := n) (by omega) (by omega) c3
                    refine v_iload_n F dX8_losers_106 1 rfl rfl ?_
                    exact v_iret F hr hlk hQ dX8_losers_107 ((wt T n (fillF Wi (nI 0) 20) 100)) rfl (by exact ⟨by rw [hk, show l = n by omega], fun g hg => win_val hT hg⟩)
                  · replace c3 := nGn (a := l) (b := n) (by omega) (by omega) c3
                    refine v_iload_n F dX8_losers_83 1 rfl rfl ?_
                    refine v_aload_n F dX8_losers_84 0 rfl rfl ?_
                    refine v_get (v := .ref (ad 8)) F inlX8 (ci := 8) rfl 14 (by decide) rfl wF_RX8_31 dX8_losers_85 0 rfl rfl ?_
                    refine v_iload_n F dX8_losers_88 2 rfl rfl ?_
                    refine v_zaldN F dX8_losers_89 8 rfl l rfl (by omega) (by decide) ((wt T n (fillF Wi (nI 0) 20) 100) l) rfl ?_
                    refine v_topi ((if fmo T n l = -1 then nI 0 else nI 1)) (win_val hT (by omega)) ?_
                    refine v_if_eq F 97 dX8_losers_90 (by decide) (fun h90 => ?_) (fun h90 => ?_)
                    · refine v_iconst (v := nI 1) F dX8_losers_97 (by decide) ?_
                      refine v_iadd F dX8_losers_98 ?_
                      refine v_topi (nI (k + 1)) (nI_add k 1) ?_
                      refine v_istore_n (lv' := [(1, .int (nI (k + 1))), (2, .int (nI l)), (0, .ref (ad 0))]) F dX8_losers_99 1 rfl (by decide) rfl ?_
                      refine v_iinc (lv' := [(2, .int (nI (l + 1))), (1, .int (nI (k + 1))), (0, .ref (ad 0))]) F (nI (l + 1)) dX8_losers_100 rfl (nI_add l 1) (by decide) rfl ?_
                      refine v_goto F 73 dX8_losers_103 (by decide) ?_
                      refine v_st (w' := wM ad G (snp T n mo) Hs Xt Tw Qs Ks Lo (wt T n (fillF Wi (nI 0) 20) 100)) (pc' := 73) (st' := []) rfl rfl rfl [0, 1, 2] (lv' := [(2, .int (nI (l + 1))), (1, .int (nI (k + 1))), (0, .ref (ad 0))]) rfl ?_
                      exact ih73 (l + 1) (k + 1) (by omega) (by omega) (by first | (rw [los, if_pos (w_0 h90), hk]; done) | (rw [los, if_neg (w_1 h90), hk] <;> rfl))
                    · refine v_iconst (v := nI 0) F dX8_losers_93 (by decide) ?_
                      refine v_goto F 98 dX8_losers_94 (by decide) ?_
                      refine v_iadd F dX8_losers_98 ?_
                      refine v_topi (nI (k + 0)) (nI_add k 0) ?_
                      refine v_istore_n (lv' := [(1, .int (nI (k + 0))), (2, .int (nI l)), (0, .ref (ad 0))]) F dX8_losers_99 1 rfl (by decide) rfl ?_
                      refine v_iinc (lv' := [(2, .int (nI (l + 1))), (1, .int (nI (k + 0))), (0, .ref (ad 0))]) F (nI (l + 1)) dX8_losers_100 rfl (nI_add l 1) (by decide) rfl ?_
                      refine v_goto F 73 dX8_losers_103 (by decide) ?_
                      refine v_st (w' := wM ad G (snp T n mo) Hs Xt Tw Qs Ks Lo (wt T n (fillF Wi (nI 0) 20) 100)) (pc' := 73) (st' := []) rfl rfl rfl [0, 1, 2] (lv' := [(2, .int (nI (l + 1))), (1, .int (nI (k + 0))), (0, .ref (ad 0))]) rfl ?_
                      exact ih73 (l + 1) (k + 0) (by omega) (by omega) (by first | (rw [los, if_pos (w_0 h90), hk]; done) | (rw [los, if_neg (w_1 h90), hk] <;> rfl))
              refine v_st (w' := wM ad G (snp T n mo) Hs Xt Tw Qs Ks Lo (wt T n (fillF Wi (nI 0) 20) 100)) (pc' := 73) (st' := []) rfl rfl rfl [0, 1, 2] (lv' := [(2, .int (nI 0)), (1, .int (nI 0)), (0, .ref (ad 0))]) rfl ?_
              exact L73 _ 0 0 (Nat.lt_succ_self _) (by omega) (rfl)
            · replace c2 := nGn (a := t) (b := 100) (by omega) (by decide) c2
              refine v_iconst (v := nI 0) F dX8_losers_29 (by decide) ?_
              refine v_istore_n (lv' := [(2, .int (nI 0)), (1, .int (nI t)), (0, .ref (ad 0))]) F dX8_losers_30 2 rfl (by decide) rfl ?_
              have L31 : ∀ (k_ : Nat) (x : Nat), 64 - x < k_ → (x ≤ 64) → V p lau e (RM 4) s m args below meth c 4 G A Q (wM ad G (snp T n mo) Hs Xt Tw Qs Ks Lo (wx T n t (wt T n (fillF Wi (nI 0) 20) t) x)) 0 0 31 [(2, .int (nI x)), (1, .int (nI t)), (0, .ref (ad 0))] [] := by
                intro k_
                induction k_ with
                | zero => exact fun x hk_ hx => absurd hk_ (Nat.not_lt_zero _)
                | succ k_ ih31 =>
                  intro x hk_31 hx
                  refine v_iload_n F dX8_losers_31 2 rfl rfl ?_
                  refine v_bipush (v := nI 64) F dX8_losers_32 (by decide) ?_
                  refine v_icmp_ge F 63 dX8_losers_34 (by decide) (fun c4 => ?_) (fun c4 => ?_)
                  · replace c4 := nG (a := x) (b := 64) (by omega) (by decide) c4
                    have hx9 : x = 64 := by omega
                    subst hx9
                    refine v_iinc (lv' := [(1, .int (nI (t + 1))), (2, .int (nI 64)), (0, .ref (ad 0))]) F (nI (t + 1)) dX8_losers_63 rfl (nI_add t 1) (by decide) rfl ?_
                    refine v_goto F 23 dX8_losers_66 (by decide) ?_
                    refine v_w (w' := wM ad G (snp T n mo) Hs Xt Tw Qs Ks Lo (wt T n (fillF Wi (nI 0) 20) (t + 1))) (congrArg (fun z_ => wM ad G (snp T n mo) Hs Xt Tw Qs Ks Lo z_) (show (wx T n t (wt T n (fillF Wi (nI 0) 20) t) 64) = (wt T n (fillF Wi (nI 0) 20) (t + 1)) by rfl)) ?_
                    refine v_st (w' := wM ad G (snp T n mo) Hs Xt Tw Qs Ks Lo (wt T n (fillF Wi (nI 0) 20) (t + 1))) (pc' := 23) (st' := []) rfl rfl rfl [0, 2] (lv' := [(1, .int (nI (t + 1))), (0, .ref (ad 0))]) rfl ?_
                    exact ih23 (t + 1) (by omega) (by omega)
                  · replace c4 := nGn (a := x) (b := 64) (by omega) (by decide) c4
                    refine v_aload_n F dX8_losers_37 0 rfl rfl ?_
                    refine v_iload_n F dX8_losers_38 2 rfl rfl ?_
                    refine v_iload_n F dX8_losers_39 1 rfl rfl ?_
                    refine v_iconst (v := (-1)) F dX8_losers_40 (by decide) ?_
                    refine v_cVIF F cs_RX8_60 dX8_losers_41 0 (ci := 8) rfl rfl (m_X8_lowestBut lau G ad T n mo Hs Xt Tw Qs Ks Lo (wx T n t (wt T n (fillF Wi (nI 0) 20) t) x) x t (-1) (by omega)) (by decide) rfl rfl (Nat.le_of_ble_eq_true rfl) ⟨Nat.zero_le _, Nat.zero_le _⟩ (fun r5 u6 w7 => ?_)
                    subst w7
                    rcases hg : lb T x t (-1) n with _ | g
                    · refine v_topi (-1) rfl ?_
                      refine v_istore_n (lv' := [(3, .int (-1)), (2, .int (nI x)), (1, .int (nI t)), (0, .ref (ad 0))]) F dX8_losers_44 3 rfl (by decide) rfl ?_
                      refine v_iload_n F dX8_losers_45 3 rfl rfl ?_
                      refine v_iconst (v := (-1)) F dX8_losers_46 (by decide) ?_
                      refine v_icmp_eq F 57 dX8_losers_47 (by decide) (fun _ => ?_) (fun h => absurd h (by decide))
                      refine v_iinc (lv' := [(2, .int (nI (x + 1))), (3, .int (-1)), (1, .int (nI t)), (0, .ref (ad 0))]) F (nI (x + 1)) dX8_losers_57 rfl (nI_add x 1) (by decide) rfl ?_
                      refine v_goto F 31 dX8_losers_60 (by decide) ?_
                      refine v_w (w' := wM ad G (snp T n mo) Hs Xt Tw Qs Ks Lo (wx T n t (wt T n (fillF Wi (nI 0) 20) t) (x + 1))) (congrArg (fun z_ => wM ad G (snp T n mo) Hs Xt Tw Qs Ks Lo z_) (show (wx T n t (wt T n (fillF Wi (nI 0) 20) t) x) = (wx T n t (wt T n (fillF Wi (nI 0) 20) t) (x + 1)) by first | rfl | exact wx_n hg | exact wx_s hg)) ?_
                      refine v_st (w' := wM ad G (snp T n mo) Hs Xt Tw Qs Ks Lo (wx T n t (wt T n (fillF Wi (nI 0) 20) t) (x + 1))) (pc' := 31) (st' := []) rfl rfl rfl [0, 2, 3] (lv' := [(2, .int (nI (x + 1))), (1, .int (nI t)), (0, .ref (ad 0))]) rfl ?_
                      exact ih31 (x + 1) (by omega) (by omega)
                    · have hgl := lb_lt _ _ _ _ _ _ hg
                      refine v_topi (nI g) rfl ?_
                      refine v_istore_n (lv' := [(3, .int (nI g)), (2, .int (nI x)), (1, .int (nI t)), (0, .ref (ad 0))]) F dX8_losers_44 3 rfl (by decide) rfl ?_
                      refine v_iload_n F dX8_losers_45 3 rfl rfl ?_
                      refine v_iconst (v := (-1)) F dX8_losers_46 (by decide) ?_
                      refine v_icmp_eq F 57 dX8_losers_47 (by decide) (fun c8 => ?_) (fun c8 => ?_)
                      · exact absurd c8 (nI_ne1 (by omega))
                      · refine v_aload_n F dX8_losers_50 0 rfl rfl ?_
                        refine v_get (v := .ref (ad 8)) F inlX8 (ci := 8) rfl 14 (by decide) rfl wF_RX8_31 dX8_losers_51 0 rfl rfl ?_
                        refine v_iload_n F dX8_losers_54 3 rfl rfl ?_
                        refine v_iconst (v := nI 1) F dX8_losers_55 (by decide) ?_
                        refine v_zastN F dX8_losers_56 8 rfl g rfl (by omega) (by decide) (nI 1) (by decide) (wM ad G (snp T n mo) Hs Xt Tw Qs Ks Lo (upd (wx T n t (wt T n (fillF Wi (nI 0) 20) t) x) g (nI 1))) rfl ?_
                        refine v_iinc (lv' := [(2, .int (nI (x + 1))), (3, .int (nI g)), (1, .int (nI t)), (0, .ref (ad 0))]) F (nI (x + 1)) dX8_losers_57 rfl (nI_add x 1) (by decide) rfl ?_
                        refine v_goto F 31 dX8_losers_60 (by decide) ?_
                        refine v_w (w' := wM ad G (snp T n mo) Hs Xt Tw Qs Ks Lo (wx T n t (wt T n (fillF Wi (nI 0) 20) t) (x + 1))) (congrArg (fun z_ => wM ad G (snp T n mo) Hs Xt Tw Qs Ks Lo z_) (show (upd (wx T n t (wt T n (fillF Wi (nI 0) 20) t) x) g (nI 1)) = (wx T n t (wt T n (fillF Wi (nI 0) 20) t) (x + 1)) by first | rfl | exact wx_n hg | exact wx_s hg)) ?_
                        refine v_st (w' := wM ad G (snp T n mo) Hs Xt Tw Qs Ks Lo (wx T n t (wt T n (fillF Wi (nI 0) 20) t) (x + 1))) (pc' := 31) (st' := []) rfl rfl rfl [0, 2, 3] (lv' := [(2, .int (nI (x + 1))), (1, .int (nI t)), (0, .ref (ad 0))]) rfl ?_
                        exact ih31 (x + 1) (by omega) (by omega)
              refine v_w (w' := wM ad G (snp T n mo) Hs Xt Tw Qs Ks Lo (wx T n t (wt T n (fillF Wi (nI 0) 20) t) 0)) (congrArg (fun z_ => wM ad G (snp T n mo) Hs Xt Tw Qs Ks Lo z_) (show (wt T n (fillF Wi (nI 0) 20) t) = (wx T n t (wt T n (fillF Wi (nI 0) 20) t) 0) by first | rfl | exact wx_n hg | exact wx_s hg)) ?_
              refine v_st (w' := wM ad G (snp T n mo) Hs Xt Tw Qs Ks Lo (wx T n t (wt T n (fillF Wi (nI 0) 20) t) 0)) (pc' := 31) (st' := []) rfl rfl rfl [0, 1, 2] (lv' := [(2, .int (nI 0)), (1, .int (nI t)), (0, .ref (ad 0))]) rfl ?_
              exact L31 _ 0 (Nat.lt_succ_self _) (by omega)
        refine v_w (w' := wM ad G (snp T n mo) Hs Xt Tw Qs Ks Lo (wt T n (fillF Wi (nI 0) 20) 0)) (congrArg (fun z_ => wM ad G (snp T n mo) Hs Xt Tw Qs Ks Lo z_) (show (fillF Wi (nI 0) 20) = (wt T n (fillF Wi (nI 0) 20) 0) by rfl)) ?_
        refine v_st (w' := wM ad G (snp T n mo) Hs Xt Tw Qs Ks Lo (wt T n (fillF Wi (nI 0) 20) 0)) (pc' := 23) (st' := []) rfl rfl rfl [0, 1] (lv' := [(1, .int (nI 0)), (0, .ref (ad 0))]) rfl ?_
        exact L23 _ 0 (Nat.lt_succ_self _) (by omega)
      · replace c1 := nGn (a := i) (b := 20) (by omega) (by decide) c1
        refine v_aload_n F dX8_losers_8 0 rfl rfl ?_
        refine v_get (v := .ref (ad 8)) F inlX8 (ci := 8) rfl 14 (by decide) rfl wF_RX8_31 dX8_losers_9 0 rfl rfl ?_
        refine v_iload_n F dX8_losers_12 1 rfl rfl ?_
        refine v_iconst (v := nI 0) F dX8_losers_13 (by decide) ?_
        refine v_zastN F dX8_losers_14 8 rfl i rfl (by omega) (by decide) (nI 0) (by decide) (wM ad G (snp T n mo) Hs Xt Tw Qs Ks Lo (upd (fillF Wi (nI 0) i) i (nI 0))) rfl ?_
        refine v_iinc (lv' := [(1, .int (nI (i + 1))), (0, .ref (ad 0))]) F (nI (i + 1)) dX8_losers_15 rfl (nI_add i 1) (by decide) rfl ?_
        refine v_goto F 2 dX8_losers_18 (by decide) ?_
        refine v_w (w' := wM ad G (snp T n mo) Hs Xt Tw Qs Ks Lo (fillF Wi (nI 0) (i + 1))) (congrArg (fun z_ => wM ad G (snp T n mo) Hs Xt Tw Qs Ks Lo z_) (show (upd (fillF Wi (nI 0) i) i (nI 0)) = (fillF Wi (nI 0) (i + 1)) by first | rw [← fillF_0] | rw [fillF_s])) ?_
        refine v_st (w' := wM ad G (snp T n mo) Hs Xt Tw Qs Ks Lo (fillF Wi (nI 0) (i + 1))) (pc' := 2) (st' := []) rfl rfl rfl [0, 1] (lv' := [(1, .int (nI (i + 1))), (0, .ref (ad 0))]) rfl ?_
        exact ih2 (i + 1) (by omega) (by omega)
  refine v_w (w' := wM ad G (snp T n mo) Hs Xt Tw Qs Ks Lo (fillF Wi (nI 0) 0)) (congrArg (fun z_ => wM ad G (snp T n mo) Hs Xt Tw Qs Ks Lo z_) (show Wi = (fillF Wi (nI 0) 0) by first | rw [← fillF_0] | rw [fillF_s])) ?_
  refine v_st (w' := wM ad G (snp T n mo) Hs Xt Tw Qs Ks Lo (fillF Wi (nI 0) 0)) (pc' := 2) (st' := []) rfl rfl rfl [0, 1] (lv' := [(1, .int (nI 0)), (0, .ref (ad 0))]) rfl ?_
  exact L2 _ 0 (Nat.lt_succ_self _) (by omega)
