set_option maxHeartbeats 4000000 in
set_option maxRecDepth 100000 in
theorem m_X8_in (lau : Launch) (G : GT) (v lo hi : Int32) : MI lau G 0 yX8_in cX8_in 3 (some .boolean) [.int v, .int lo, .int hi] ([]) (fun u : Unit => []) (fun r u => r = bI (inB v lo hi)) := by
  refine mi_of (by decide +kernel) (Nat.le_of_ble_eq_true rfl) ?_
  intro p e s m args below meth c A Q F hr hlk hQ
  refine v_st (w' := []) (pc' := 0) (st' := []) rfl rfl rfl [0, 1, 2] (lv' := [(0, .int v), (1, .int lo), (2, .int hi)]) rfl ?_
  refine v_iload_n F dX8_in_0 0 rfl rfl ?_
  refine v_iload_n F dX8_in_1 1 rfl rfl ?_
  refine v_icmp_lt F 14 dX8_in_2 (by decide) (fun c1 => ?_) (fun c1 => ?_)
  · refine v_iconst (v := nI 0) F dX8_in_14 (by decide) ?_
    exact v_zret F hr hlk hQ rfl dX8_in_15 (()) rfl (by first | (simp [inB, bI, nI_0, nI_one, *]; done) | (simp [inB, bI, nI_0, nI_one, *]; rfl))
  · refine v_iload_n F dX8_in_5 0 rfl rfl ?_
    refine v_iload_n F dX8_in_6 2 rfl rfl ?_
    refine v_icmp_gt F 14 dX8_in_7 (by decide) (fun c2 => ?_) (fun c2 => ?_)
    · refine v_iconst (v := nI 0) F dX8_in_14 (by decide) ?_
      exact v_zret F hr hlk hQ rfl dX8_in_15 (()) rfl (by first | (simp [inB, bI, nI_0, nI_one, *]; done) | (simp [inB, bI, nI_0, nI_one, *]; rfl))
    · refine v_iconst (v := nI 1) F dX8_in_10 (by decide) ?_
      refine v_goto F 15 dX8_in_11 (by decide) ?_
      exact v_zret F hr hlk hQ rfl dX8_in_15 (()) rfl (by first | (simp [inB, bI, nI_0, nI_one, *]; done) | (simp [inB, bI, nI_0, nI_one, *]; rfl))
theorem cs_RX8_39 : CSS RX8 39 yX8_in cX8_in 3 (some .boolean) 3 := ⟨wC_yX8_in, wM_RX8_39, wSt_yX8_in, wI_RX8, by decide +kernel, by decide⟩
set_option maxHeartbeats 4000000 in
set_option maxRecDepth 100000 in
theorem m_X8_isSlope (lau : Launch) (G : GT) (x : Int32) : MI lau G 1 yX8_isSlope cX8_isSlope 1 (some .boolean) [.int x] ([]) (fun u : Unit => []) (fun r u => r = bI (slB x)) := by
  refine mi_of (by decide +kernel) (Nat.le_of_ble_eq_true rfl) ?_
  intro p e s m args below meth c A Q F hr hlk hQ
  refine v_st (w' := []) (pc' := 0) (st' := []) rfl rfl rfl [0] (lv' := [(0, .int x)]) rfl ?_
  refine v_iload_n F dX8_isSlope_0 0 rfl rfl ?_
  refine v_bipush (v := (-99)) F dX8_isSlope_1 (by decide) ?_
  refine v_bipush (v := nI 99) F dX8_isSlope_3 (by decide) ?_
  refine v_cSIE F cs_RX8_39 dX8_isSlope_5 (m_X8_in lau G x (-99) (nI 99) ) (by decide) rfl rfl (Nat.le_of_ble_eq_true rfl) ⟨Nat.zero_le _, Nat.zero_le _⟩ (fun r1 u2 w3 => ?_)
  subst w3
  exact v_zret F hr hlk hQ (nar_b (inB x ((-99)) (nI 99))) dX8_isSlope_8 (()) rfl (by rfl)
set_option maxHeartbeats 4000000 in
set_option maxRecDepth 100000 in
theorem m_X8_isOffset (lau : Launch) (G : GT) (x : Int32) : MI lau G 1 yX8_isOffset cX8_isOffset 1 (some .boolean) [.int x] ([]) (fun u : Unit => []) (fun r u => r = bI (ofB x)) := by
  refine mi_of (by decide +kernel) (Nat.le_of_ble_eq_true rfl) ?_
  intro p e s m args below meth c A Q F hr hlk hQ
  refine v_st (w' := []) (pc' := 0) (st' := []) rfl rfl rfl [0] (lv' := [(0, .int x)]) rfl ?_
  refine v_iload_n F dX8_isOffset_0 0 rfl rfl ?_
  refine v_sipush (v := (-9999)) F dX8_isOffset_1 (by decide) ?_
  refine v_sipush (v := nI 9999) F dX8_isOffset_4 (by decide) ?_
  refine v_cSIE F cs_RX8_39 dX8_isOffset_7 (m_X8_in lau G x (-9999) (nI 9999) ) (by decide) rfl rfl (Nat.le_of_ble_eq_true rfl) ⟨Nat.zero_le _, Nat.zero_le _⟩ (fun r1 u2 w3 => ?_)
  subst w3
  exact v_zret F hr hlk hQ (nar_b (inB x ((-9999)) (nI 9999))) dX8_isOffset_10 (()) rfl (by rfl)
set_option maxHeartbeats 4000000 in
set_option maxRecDepth 100000 in
theorem m_X8_isPlace (lau : Launch) (G : GT) (x : Int32) : MI lau G 1 yX8_isPlace cX8_isPlace 1 (some .boolean) [.int x] ([]) (fun u : Unit => []) (fun r u => r = bI (plB x)) := by
  refine mi_of (by decide +kernel) (Nat.le_of_ble_eq_true rfl) ?_
  intro p e s m args below meth c A Q F hr hlk hQ
  refine v_st (w' := []) (pc' := 0) (st' := []) rfl rfl rfl [0] (lv' := [(0, .int x)]) rfl ?_
  refine v_iload_n F dX8_isPlace_0 0 rfl rfl ?_
  refine v_iconst (v := nI 0) F dX8_isPlace_1 (by decide) ?_
  refine v_bipush (v := nI 63) F dX8_isPlace_2 (by decide) ?_
  refine v_cSIE F cs_RX8_39 dX8_isPlace_4 (m_X8_in lau G x (nI 0) (nI 63) ) (by decide) rfl rfl (Nat.le_of_ble_eq_true rfl) ⟨Nat.zero_le _, Nat.zero_le _⟩ (fun r1 u2 w3 => ?_)
  subst w3
  exact v_zret F hr hlk hQ (nar_b (inB x (nI 0) (nI 63))) dX8_isPlace_7 (()) rfl (by rfl)
set_option maxHeartbeats 4000000 in
set_option maxRecDepth 100000 in
theorem m_X8_isMoment (lau : Launch) (G : GT) (x : Int32) : MI lau G 1 yX8_isMoment cX8_isMoment 1 (some .boolean) [.int x] ([]) (fun u : Unit => []) (fun r u => r = bI (moB x)) := by
  refine mi_of (by decide +kernel) (Nat.le_of_ble_eq_true rfl) ?_
  intro p e s m args below meth c A Q F hr hlk hQ
  refine v_st (w' := []) (pc' := 0) (st' := []) rfl rfl rfl [0] (lv' := [(0, .int x)]) rfl ?_
  refine v_iload_n F dX8_isMoment_0 0 rfl rfl ?_
  refine v_iconst (v := nI 0) F dX8_isMoment_1 (by decide) ?_
  refine v_bipush (v := nI 99) F dX8_isMoment_2 (by decide) ?_
  refine v_cSIE F cs_RX8_39 dX8_isMoment_4 (m_X8_in lau G x (nI 0) (nI 99) ) (by decide) rfl rfl (Nat.le_of_ble_eq_true rfl) ⟨Nat.zero_le _, Nat.zero_le _⟩ (fun r1 u2 w3 => ?_)
  subst w3
  exact v_zret F hr hlk hQ (nar_b (inB x (nI 0) (nI 99))) dX8_isMoment_7 (()) rfl (by rfl)
set_option maxHeartbeats 4000000 in
set_option maxRecDepth 100000 in
theorem m_X8_thrown (lau : Launch) (G : GT) (ad : Nat → Nat) (N : Nat → Int32) (Hs : HT) (Xt : XT) (Tw : Nat) (Qs : QT) (Ks : KS) (Lo Wi : Nat → Int32) : MI lau G 0 yX8_thrown cX8_thrown 1 (some .int) [.ref (ad 0)] (wM ad G N Hs Xt Tw Qs Ks Lo Wi) (fun u : Unit => wM ad G N Hs Xt Tw Qs Ks Lo Wi) (fun r u => r = nI Tw) := by
  refine mi_of (by decide +kernel) (Nat.le_of_ble_eq_true rfl) ?_
  intro p e s m args below meth c A Q F hr hlk hQ
  refine v_st (w' := wM ad G N Hs Xt Tw Qs Ks Lo Wi) (pc' := 0) (st' := []) rfl rfl rfl [0] (lv' := [(0, .ref (ad 0))]) rfl ?_
  refine v_aload_n F dX8_thrown_0 0 rfl rfl ?_
  refine v_get (v := .int (nI Tw)) F inlX8 (ci := 8) rfl 5 (by decide) rfl wF_RX8_35 dX8_thrown_1 0 rfl rfl ?_
  exact v_iret F hr hlk hQ dX8_thrown_4 (()) rfl (by first | rfl | (simp; done))
set_option maxHeartbeats 4000000 in
set_option maxRecDepth 100000 in
theorem m_X8_fails (lau : Launch) (G : GT) (ad : Nat → Nat) (N : Nat → Int32) (Hs : HT) (Xt : XT) (Tw : Nat) (Qs : QT) (Ks : KS) (Lo Wi : Nat → Int32) (k : Nat) : MI lau G 0 yX8_fails cX8_fails 2 (some .int) [.ref (ad 0), .int (nI k)] (wM ad G N Hs Xt Tw Qs Ks Lo Wi) (fun u : Unit => wM ad G N Hs Xt k Qs Ks Lo Wi) (fun r u => r = nI 0) := by
  refine mi_of (by decide +kernel) (Nat.le_of_ble_eq_true rfl) ?_
  intro p e s m args below meth c A Q F hr hlk hQ
  refine v_st (w' := wM ad G N Hs Xt Tw Qs Ks Lo Wi) (pc' := 0) (st' := []) rfl rfl rfl [0, 1] (lv' := [(0, .ref (ad 0)), (1, .int (nI k))]) rfl ?_
  refine v_aload_n F dX8_fails_0 0 rfl rfl ?_
  refine v_iload_n F dX8_fails_1 1 rfl rfl ?_
  refine v_put F inlX8 (ci := 8) rfl tyX8 tyX8_ok nmX8 5 (by decide) rfl rfl wF_RX8_35 dX8_fails_2 (ty := .int) (by decide +kernel) rfl rfl 0 rfl (Nat.le_of_ble_eq_true rfl) (wM ad G N Hs Xt (k) Qs Ks Lo Wi) rfl ?_
  refine v_iconst (v := nI 0) F dX8_fails_5 (by decide) ?_
  exact v_iret F hr hlk hQ dX8_fails_6 (()) rfl (by first | rfl | (simp; done))
set_option maxHeartbeats 4000000 in
set_option maxRecDepth 100000 in
theorem m_X8_isLine (lau : Launch) (G : GT) (ad : Nat → Nat) (T : Nat → Int32) (n mo : Nat) (Hs : HT) (Xt : XT) (Tw : Nat) (Qs : QT) (Ks : KS) (Lo Wi : Nat → Int32) (line : Int32) (hn : n ≤ 20) : MI lau G 1 yX8_isLine cX8_isLine 2 (some .boolean) [.ref (ad 0), .int line] (wM ad G (snp T n mo) Hs Xt Tw Qs Ks Lo Wi) (fun u : Unit => wM ad G (snp T n mo) Hs Xt Tw Qs Ks Lo Wi) (fun r u => r = bI (hasB n line)) := by
  refine mi_of (by decide +kernel) (Nat.le_of_ble_eq_true rfl) ?_
  intro p e s m args below meth c A Q F hr hlk hQ
  refine v_st (w' := wM ad G (snp T n mo) Hs Xt Tw Qs Ks Lo Wi) (pc' := 0) (st' := []) rfl rfl rfl [0, 1] (lv' := [(0, .ref (ad 0)), (1, .int line)]) rfl ?_
  refine v_iload_n F dX8_isLine_0 1 rfl rfl ?_
  refine v_iconst (v := nI 0) F dX8_isLine_1 (by decide) ?_
  refine v_aload_n F dX8_isLine_2 0 rfl rfl ?_
  refine v_get (v := .ref (ad 1)) F inlX8 (ci := 8) rfl 0 (by decide) rfl wF_RX8_7 dX8_isLine_3 0 rfl rfl ?_
  refine v_iconst (v := nI 1) F dX8_isLine_6 (by decide) ?_
  refine v_ialdN F dX8_isLine_7 1 rfl 1 rfl (by omega) (by decide) ((snp T n mo) 1) rfl ?_
  refine v_topi (nI n) rfl ?_
  refine v_iconst (v := nI 1) F dX8_isLine_8 (by decide) ?_
  refine v_isub F dX8_isLine_9 ?_
  refine v_cSIE F cs_RX8_39 dX8_isLine_10 (m_X8_in lau G line (nI 0) (nI n - nI 1) ) (by decide) rfl rfl (Nat.le_of_ble_eq_true rfl) ⟨Nat.zero_le _, Nat.zero_le _⟩ (fun r1 u2 w3 => ?_)
  subst w3
  refine v_topi (bI (hasB n line)) (congrArg bI (inB_has hn)) ?_
  exact v_zret F hr hlk hQ (nar_b (hasB n line)) dX8_isLine_13 (()) rfl (by rfl)
set_option maxHeartbeats 4000000 in
set_option maxRecDepth 100000 in
theorem m_X8_of (lau : Launch) (G : GT) (ad : Nat → Nat) (T : Nat → Int32) (n mo : Nat) (Hs : HT) (Xt : XT) (Tw : Nat) (Qs : QT) (Ks : KS) (Lo Wi : Nat → Int32) (l k : Nat) (hl : l < 20) (hk : k < 6) : MI lau G 0 yX8_of cX8_of 3 (some .int) [.ref (ad 0), .int (nI l), .int (nI k)] (wM ad G (snp T n mo) Hs Xt Tw Qs Ks Lo Wi) (fun u : Unit => wM ad G (snp T n mo) Hs Xt Tw Qs Ks Lo Wi) (fun r u => r = (T ((l * 6) + k))) := by
  refine mi_of (by decide +kernel) (Nat.le_of_ble_eq_true rfl) ?_
  intro p e s m args below meth c A Q F hr hlk hQ
  refine v_st (w' := wM ad G (snp T n mo) Hs Xt Tw Qs Ks Lo Wi) (pc' := 0) (st' := []) rfl rfl rfl [0, 1, 2] (lv' := [(0, .ref (ad 0)), (1, .int (nI l)), (2, .int (nI k))]) rfl ?_
  refine v_aload_n F dX8_of_0 0 rfl rfl ?_
  refine v_get (v := .ref (ad 1)) F inlX8 (ci := 8) rfl 0 (by decide) rfl wF_RX8_7 dX8_of_1 0 rfl rfl ?_
  refine v_iconst (v := nI 2) F dX8_of_4 (by decide) ?_
  refine v_bipush (v := nI 6) F dX8_of_5 (by decide) ?_
  refine v_iload_n F dX8_of_7 1 rfl rfl ?_
  refine v_imul F dX8_of_8 ?_
  refine v_topi (nI (6 * l)) (pk_mul 6 l) ?_
  refine v_iadd F dX8_of_9 ?_
  refine v_topi (nI (2 + (6 * l))) (nI_add 2 (6 * l)) ?_
  refine v_iload_n F dX8_of_10 2 rfl rfl ?_
  refine v_iadd F dX8_of_11 ?_
  refine v_topi (nI ((2 + (6 * l)) + k)) (nI_add (2 + (6 * l)) k) ?_
  refine v_ialdN F dX8_of_12 1 rfl ((2 + (6 * l)) + k) rfl (by omega) (by decide) ((snp T n mo) ((2 + (6 * l)) + k)) rfl ?_
  refine v_topi (T ((l * 6) + k)) (snp_at T n mo l k) ?_
  exact v_iret F hr hlk hQ dX8_of_13 (()) rfl (by first | rfl | (simp; done))
theorem cs_RX8_50 : CSV RX8 50 RX8 yX8_of cX8_of 3 (some .int) 2 := ⟨wC_yX8_of, wM_RX8_50, wIm_yX8_of, wSe_yX8_of, wI_RX8, by decide +kernel, by decide⟩
set_option maxHeartbeats 4000000 in
set_option maxRecDepth 100000 in
theorem m_X8_at (lau : Launch) (G : GT) (ad : Nat → Nat) (T : Nat → Int32) (n mo : Nat) (Hs : HT) (Xt : XT) (Tw : Nat) (Qs : QT) (Ks : KS) (Lo Wi : Nat → Int32) (l x : Nat) (hl : l < 20) : MI lau G 1 yX8_at cX8_at 3 (some .int) [.ref (ad 0), .int (nI l), .int (nI x)] (wM ad G (snp T n mo) Hs Xt Tw Qs Ks Lo Wi) (fun u : Unit => wM ad G (snp T n mo) Hs Xt Tw Qs Ks Lo Wi) (fun r u => r = (pVal T l x)) := by
  refine mi_of (by decide +kernel) (Nat.le_of_ble_eq_true rfl) ?_
  intro p e s m args below meth c A Q F hr hlk hQ
  refine v_st (w' := wM ad G (snp T n mo) Hs Xt Tw Qs Ks Lo Wi) (pc' := 0) (st' := []) rfl rfl rfl [0, 1, 2] (lv' := [(0, .ref (ad 0)), (1, .int (nI l)), (2, .int (nI x))]) rfl ?_
  refine v_aload_n F dX8_at_0 0 rfl rfl ?_
  refine v_iload_n F dX8_at_1 1 rfl rfl ?_
  refine v_iconst (v := nI 0) F dX8_at_2 (by decide) ?_
  refine v_cVIF F cs_RX8_50 dX8_at_3 0 (ci := 8) rfl rfl (m_X8_of lau G ad T n mo Hs Xt Tw Qs Ks Lo Wi l 0 (by omega) (by omega)) (by decide) rfl rfl (Nat.le_of_ble_eq_true rfl) ⟨Nat.zero_le _, Nat.zero_le _⟩ (fun r1 u2 w3 => ?_)
  subst w3
  refine v_iload_n F dX8_at_6 2 rfl rfl ?_
  refine v_imul F dX8_at_7 ?_
  refine v_aload_n F dX8_at_8 0 rfl rfl ?_
  refine v_iload_n F dX8_at_9 1 rfl rfl ?_
  refine v_iconst (v := nI 1) F dX8_at_10 (by decide) ?_
  refine v_cVIF F cs_RX8_50 dX8_at_11 0 (ci := 8) rfl rfl (m_X8_of lau G ad T n mo Hs Xt Tw Qs Ks Lo Wi l 1 (by omega) (by omega)) (by decide) rfl rfl (Nat.le_of_ble_eq_true rfl) ⟨Nat.zero_le _, Nat.zero_le _⟩ (fun r4 u5 w6 => ?_)
  subst w6
  refine v_iadd F dX8_at_14 ?_
  exact v_iret F hr hlk hQ dX8_at_15 (()) rfl (by rfl)
set_option maxHeartbeats 4000000 in
set_option maxRecDepth 100000 in
theorem m_X8_saves (lau : Launch) (G : GT) (ad : Nat → Nat) (T : Nat → Int32) (n mo : Nat) (S : Nat → Int32) (h : Nat) (Xt : XT) (Tw : Nat) (Qs : QT) (Ks : KS) (Lo Wi : Nat → Int32) (hh : h ≤ 6) : MV lau G 0 yX8_saves cX8_saves 2 none [.ref (ad 0)] (wM ad G (snp T n mo) (S, h) Xt Tw Qs Ks Lo Wi) (fun u : Unit => wM ad G (snp T n mo) (pSave S h T n mo, pSaveH h) Xt Tw Qs Ks Lo Wi) (fun u => True) := by
  refine mv_of (by decide +kernel) (Nat.le_of_ble_eq_true rfl) ?_
  intro p e s m args below meth c A Q F hr hlk hQ
  refine v_st (w' := wM ad G (snp T n mo) (S, h) Xt Tw Qs Ks Lo Wi) (pc' := 0) (st' := []) rfl rfl rfl [0] (lv' := [(0, .ref (ad 0))]) rfl ?_
  refine v_aload_n F dX8_saves_0 0 rfl rfl ?_
  refine v_get (v := .int (nI h)) F inlX8 (ci := 8) rfl 2 (by decide) rfl wF_RX8_43 dX8_saves_1 0 rfl rfl ?_
  refine v_bipush (v := nI 6) F dX8_saves_4 (by decide) ?_
  refine v_icmp_ne F 49 dX8_saves_6 (by decide) (fun hh6 => ?_) (fun hh6 => ?_)
  · replace hh6 := nEn (a := h) (b := 6) (by omega) (by decide) hh6
    refine v_iconst (v := nI 0) F dX8_saves_49 (by decide) ?_
    refine v_istore_n (lv' := [(1, .int (nI 0)), (0, .ref (ad 0))]) F dX8_saves_50 1 rfl (by decide) rfl ?_
    have L51 : ∀ (k_ : Nat) (k : Nat), 122 - k < k_ → (k ≤ 122) → V p lau e (RM 0) s m args below meth c 2 G A Q (wM ad G (snp T n mo) (va_cpy (snp T n mo) S 0 (122 * h) k, h) Xt Tw Qs Ks Lo Wi) 0 0 51 [(1, .int (nI k)), (0, .ref (ad 0))] [] := by
      intro k_
      induction k_ with
      | zero => exact fun k hk_ hk => absurd hk_ (Nat.not_lt_zero _)
      | succ k_ ih51 =>
        intro k hk_51 hk
        refine v_iload_n F dX8_saves_51 1 rfl rfl ?_
        refine v_bipush (v := nI 122) F dX8_saves_52 (by decide) ?_
        refine v_icmp_ge F 83 dX8_saves_54 (by decide) (fun c1 => ?_) (fun c1 => ?_)
        · replace c1 := nG (a := k) (b := 122) (by omega) (by decide) c1
          have hk9 : k = 122 := by omega
          subst hk9
          refine v_aload_n F dX8_saves_83 0 rfl rfl ?_
          refine v_dup F dX8_saves_84 rfl ?_
          refine v_get (v := .int (nI h)) F inlX8 (ci := 8) rfl 2 (by decide) rfl wF_RX8_43 dX8_saves_85 0 rfl rfl ?_
          refine v_iconst (v := nI 1) F dX8_saves_88 (by decide) ?_
          refine v_iadd F dX8_saves_89 ?_
          refine v_topi (nI (h + 1)) (nI_add h 1) ?_
          refine v_put F inlX8 (ci := 8) rfl tyX8 tyX8_ok nmX8 2 (by decide) rfl rfl wF_RX8_43 dX8_saves_90 (ty := .int) (by decide +kernel) rfl rfl 0 rfl (Nat.le_of_ble_eq_true rfl) (wM ad G (snp T n mo) (va_cpy (snp T n mo) S 0 (122 * h) 122, h + 1) Xt Tw Qs Ks Lo Wi) rfl ?_
          refine v_w (w' := wM ad G (snp T n mo) (pSave S h T n mo, pSaveH h) Xt Tw Qs Ks Lo Wi) (congrArg (fun z_ => wM ad G (snp T n mo) z_ Xt Tw Qs Ks Lo Wi) (show (va_cpy (snp T n mo) S 0 (122 * h) 122, h + 1) = (pSave S h T n mo, pSaveH h) by first | exact sv_a (by assumption) hh | exact sv_b)) ?_
          exact v_vret F hr hlk hQ dX8_saves_93 (()) rfl (by trivial)
        · replace c1 := nGn (a := k) (b := 122) (by omega) (by decide) c1
          refine v_aload_n F dX8_saves_57 0 rfl rfl ?_
          refine v_get (v := .ref (ad 2)) F inlX8 (ci := 8) rfl 1 (by decide) rfl wF_RX8_13 dX8_saves_58 0 rfl rfl ?_
          refine v_bipush (v := nI 122) F dX8_saves_61 (by decide) ?_
          refine v_aload_n F dX8_saves_63 0 rfl rfl ?_
          refine v_get (v := .int (nI h)) F inlX8 (ci := 8) rfl 2 (by decide) rfl wF_RX8_43 dX8_saves_64 0 rfl rfl ?_
          refine v_imul F dX8_saves_67 ?_
          refine v_topi (nI (122 * h)) (pk_mul 122 h) ?_
          refine v_iload_n F dX8_saves_68 1 rfl rfl ?_
          refine v_iadd F dX8_saves_69 ?_
          refine v_topi (nI ((122 * h) + k)) (nI_add (122 * h) k) ?_
          refine v_aload_n F dX8_saves_70 0 rfl rfl ?_
          refine v_get (v := .ref (ad 1)) F inlX8 (ci := 8) rfl 0 (by decide) rfl wF_RX8_7 dX8_saves_71 0 rfl rfl ?_
          refine v_iload_n F dX8_saves_74 1 rfl rfl ?_
          refine v_ialdN F dX8_saves_75 1 rfl k rfl (by omega) (by decide) ((snp T n mo) k) rfl ?_
          refine v_iastN F dX8_saves_76 2 rfl ((122 * h) + k) rfl (by omega) (by decide) (wM ad G (snp T n mo) (upd (va_cpy (snp T n mo) S 0 (122 * h) k) ((122 * h) + k) ((snp T n mo) k), h) Xt Tw Qs Ks Lo Wi) rfl ?_
          refine v_iinc (lv' := [(1, .int (nI (k + 1))), (0, .ref (ad 0))]) F (nI (k + 1)) dX8_saves_77 rfl (nI_add k 1) (by decide) rfl ?_
          refine v_goto F 51 dX8_saves_80 (by decide) ?_
          refine v_w (w' := wM ad G (snp T n mo) (va_cpy (snp T n mo) S 0 (122 * h) (k + 1), h) Xt Tw Qs Ks Lo Wi) (congrArg (fun z_ => wM ad G (snp T n mo) z_ Xt Tw Qs Ks Lo Wi) (show (upd (va_cpy (snp T n mo) S 0 (122 * h) k) ((122 * h) + k) ((snp T n mo) k), h) = (va_cpy (snp T n mo) S 0 (122 * h) (k + 1), h) by first | (rw [← cpy_0]; done) | exact sv_s)) ?_
          refine v_st (w' := wM ad G (snp T n mo) (va_cpy (snp T n mo) S 0 (122 * h) (k + 1), h) Xt Tw Qs Ks Lo Wi) (pc' := 51) (st' := []) rfl rfl rfl [0, 1] (lv' := [(1, .int (nI (k + 1))), (0, .ref (ad 0))]) rfl ?_
          exact ih51 (k + 1) (by omega) (by omega)
    refine v_w (w' := wM ad G (snp T n mo) (va_cpy (snp T n mo) S 0 (122 * h) 0, h) Xt Tw Qs Ks Lo Wi) (congrArg (fun z_ => wM ad G (snp T n mo) z_ Xt Tw Qs Ks Lo Wi) (show (S, h) = (va_cpy (snp T n mo) S 0 (122 * h) 0, h) by first | (rw [← cpy_0]; done) | exact sv_s)) ?_
    refine v_st (w' := wM ad G (snp T n mo) (va_cpy (snp T n mo) S 0 (122 * h) 0, h) Xt Tw Qs Ks Lo Wi) (pc' := 51) (st' := []) rfl rfl rfl [0, 1] (lv' := [(1, .int (nI 0)), (0, .ref (ad 0))]) rfl ?_
    exact L51 _ 0 (Nat.lt_succ_self _) (by omega)
  · replace hh6 := nE (a := h) (b := 6) (by omega) (by decide) hh6
    subst hh6
    refine v_iconst (v := nI 0) F dX8_saves_9 (by decide) ?_
    refine v_istore_n (lv' := [(1, .int (nI 0)), (0, .ref (ad 0))]) F dX8_saves_10 1 rfl (by decide) rfl ?_
    have L11 : ∀ (k_ : Nat) (i : Nat), 610 - i < k_ → (i ≤ 610) → V p lau e (RM 0) s m args below meth c 2 G A Q (wM ad G (snp T n mo) (va_cpy S S 122 0 i, 6) Xt Tw Qs Ks Lo Wi) 0 0 11 [(1, .int (nI i)), (0, .ref (ad 0))] [] := by
      intro k_
      induction k_ with
      | zero => exact fun i hk_ hi => absurd hk_ (Nat.not_lt_zero _)
      | succ k_ ih11 =>
        intro i hk_11 hi
        refine v_iload_n F dX8_saves_11 1 rfl rfl ?_
        refine v_sipush (v := nI 610) F dX8_saves_12 (by decide) ?_
        refine v_icmp_ge F 39 dX8_saves_15 (by decide) (fun c2 => ?_) (fun c2 => ?_)
        · replace c2 := nG (a := i) (b := 610) (by omega) (by decide) c2
          have hi9 : i = 610 := by omega
          subst hi9
          refine v_aload_n F dX8_saves_39 0 rfl rfl ?_
          refine v_dup F dX8_saves_40 rfl ?_
          refine v_get (v := .int (nI 6)) F inlX8 (ci := 8) rfl 2 (by decide) rfl wF_RX8_43 dX8_saves_41 0 rfl rfl ?_
          refine v_iconst (v := nI 1) F dX8_saves_44 (by decide) ?_
          refine v_isub F dX8_saves_45 ?_
          refine v_topi (nI 5) (by decide) ?_
          refine v_put F inlX8 (ci := 8) rfl tyX8 tyX8_ok nmX8 2 (by decide) rfl rfl wF_RX8_43 dX8_saves_46 (ty := .int) (by decide +kernel) rfl rfl 0 rfl (Nat.le_of_ble_eq_true rfl) (wM ad G (snp T n mo) (va_cpy S S 122 0 610, 5) Xt Tw Qs Ks Lo Wi) rfl ?_
          refine v_iconst (v := nI 0) F dX8_saves_49 (by decide) ?_
          refine v_istore_n (lv' := [(1, .int (nI 0)), (0, .ref (ad 0))]) F dX8_saves_50 1 rfl (by decide) rfl ?_
          have L51 : ∀ (k_ : Nat) (k : Nat), 122 - k < k_ → (k ≤ 122) → V p lau e (RM 0) s m args below meth c 2 G A Q (wM ad G (snp T n mo) (va_cpy (snp T n mo) (va_cpy S S 122 0 610) 0 610 k, 5) Xt Tw Qs Ks Lo Wi) 0 0 51 [(1, .int (nI k)), (0, .ref (ad 0))] [] := by
            intro k_
            induction k_ with
            | zero => exact fun k hk_ hk => absurd hk_ (Nat.not_lt_zero _)
            | succ k_ ih51 =>
              intro k hk_51 hk
              refine v_iload_n F dX8_saves_51 1 rfl rfl ?_
              refine v_bipush (v := nI 122) F dX8_saves_52 (by decide) ?_
              refine v_icmp_ge F 83 dX8_saves_54 (by decide) (fun c3 => ?_) (fun c3 => ?_)
              · replace c3 := nG (a := k) (b := 122) (by omega) (by decide) c3
                have hk9 : k = 122 := by omega
                subst hk9
                refine v_aload_n F dX8_saves_83 0 rfl rfl ?_
                refine v_dup F dX8_saves_84 rfl ?_
                refine v_get (v := .int (nI 5)) F inlX8 (ci := 8) rfl 2 (by decide) rfl wF_RX8_43 dX8_saves_85 0 rfl rfl ?_
                refine v_iconst (v := nI 1) F dX8_saves_88 (by decide) ?_
                refine v_iadd F dX8_saves_89 ?_
                refine v_topi (nI 6) (nI_add 5 1) ?_
                refine v_put F inlX8 (ci := 8) rfl tyX8 tyX8_ok nmX8 2 (by decide) rfl rfl wF_RX8_43 dX8_saves_90 (ty := .int) (by decide +kernel) rfl rfl 0 rfl (Nat.le_of_ble_eq_true rfl) (wM ad G (snp T n mo) (va_cpy (snp T n mo) (va_cpy S S 122 0 610) 0 610 122, 6) Xt Tw Qs Ks Lo Wi) rfl ?_
                refine v_w (w' := wM ad G (snp T n mo) (pSave S 6 T n mo, pSaveH 6) Xt Tw Qs Ks Lo Wi) (congrArg (fun z_ => wM ad G (snp T n mo) z_ Xt Tw Qs Ks Lo Wi) (show (va_cpy (snp T n mo) (va_cpy S S 122 0 610) 0 610 122, 6) = (pSave S 6 T n mo, pSaveH 6) by first | exact sv_a (by assumption) hh | exact sv_b)) ?_
                exact v_vret F hr hlk hQ dX8_saves_93 (()) rfl (by trivial)
              · replace c3 := nGn (a := k) (b := 122) (by omega) (by decide) c3
                refine v_aload_n F dX8_saves_57 0 rfl rfl ?_
                refine v_get (v := .ref (ad 2)) F inlX8 (ci := 8) rfl 1 (by decide) rfl wF_RX8_13 dX8_saves_58 0 rfl rfl ?_
                refine v_bipush (v := nI 122) F dX8_saves_61 (by decide) ?_
                refine v_aload_n F dX8_saves_63 0 rfl rfl ?_
                refine v_get (v := .int (nI 5)) F inlX8 (ci := 8) rfl 2 (by decide) rfl wF_RX8_43 dX8_saves_64 0 rfl rfl ?_
                refine v_imul F dX8_saves_67 ?_
                refine v_topi (nI 610) (pk_mul 122 5) ?_
                refine v_iload_n F dX8_saves_68 1 rfl rfl ?_
                refine v_iadd F dX8_saves_69 ?_
                refine v_topi (nI (610 + k)) (nI_add 610 k) ?_
                refine v_aload_n F dX8_saves_70 0 rfl rfl ?_
                refine v_get (v := .ref (ad 1)) F inlX8 (ci := 8) rfl 0 (by decide) rfl wF_RX8_7 dX8_saves_71 0 rfl rfl ?_
                refine v_iload_n F dX8_saves_74 1 rfl rfl ?_
                refine v_ialdN F dX8_saves_75 1 rfl k rfl (by omega) (by decide) ((snp T n mo) k) rfl ?_
                refine v_iastN F dX8_saves_76 2 rfl (610 + k) rfl (by omega) (by decide) (wM ad G (snp T n mo) (upd (va_cpy (snp T n mo) (va_cpy S S 122 0 610) 0 610 k) (610 + k) ((snp T n mo) k), 5) Xt Tw Qs Ks Lo Wi) rfl ?_
                refine v_iinc (lv' := [(1, .int (nI (k + 1))), (0, .ref (ad 0))]) F (nI (k + 1)) dX8_saves_77 rfl (nI_add k 1) (by decide) rfl ?_
                refine v_goto F 51 dX8_saves_80 (by decide) ?_
                refine v_w (w' := wM ad G (snp T n mo) (va_cpy (snp T n mo) (va_cpy S S 122 0 610) 0 610 (k + 1), 5) Xt Tw Qs Ks Lo Wi) (congrArg (fun z_ => wM ad G (snp T n mo) z_ Xt Tw Qs Ks Lo Wi) (show (upd (va_cpy (snp T n mo) (va_cpy S S 122 0 610) 0 610 k) (610 + k) ((snp T n mo) k), 5) = (va_cpy (snp T n mo) (va_cpy S S 122 0 610) 0 610 (k + 1), 5) by first | (rw [← cpy_0]; done) | exact sv_s)) ?_
                refine v_st (w' := wM ad G (snp T n mo) (va_cpy (snp T n mo) (va_cpy S S 122 0 610) 0 610 (k + 1), 5) Xt Tw Qs Ks Lo Wi) (pc' := 51) (st' := []) rfl rfl rfl [0, 1] (lv' := [(1, .int (nI (k + 1))), (0, .ref (ad 0))]) rfl ?_
                exact ih51 (k + 1) (by omega) (by omega)
          refine v_w (w' := wM ad G (snp T n mo) (va_cpy (snp T n mo) (va_cpy S S 122 0 610) 0 610 0, 5) Xt Tw Qs Ks Lo Wi) (congrArg (fun z_ => wM ad G (snp T n mo) z_ Xt Tw Qs Ks Lo Wi) (show (va_cpy S S 122 0 610, 5) = (va_cpy (snp T n mo) (va_cpy S S 122 0 610) 0 610 0, 5) by first | (rw [← cpy_0]; done) | exact sv_s)) ?_
          refine v_st (w' := wM ad G (snp T n mo) (va_cpy (snp T n mo) (va_cpy S S 122 0 610) 0 610 0, 5) Xt Tw Qs Ks Lo Wi) (pc' := 51) (st' := []) rfl rfl rfl [0, 1] (lv' := [(1, .int (nI 0)), (0, .ref (ad 0))]) rfl ?_
          exact L51 _ 0 (Nat.lt_succ_self _) (by omega)
        · replace c2 := nGn (a := i) (b := 610) (by omega) (by decide) c2
          refine v_aload_n F dX8_saves_18 0 rfl rfl ?_
          refine v_get (v := .ref (ad 2)) F inlX8 (ci := 8) rfl 1 (by decide) rfl wF_RX8_13 dX8_saves_19 0 rfl rfl ?_
          refine v_iload_n F dX8_saves_22 1 rfl rfl ?_
          refine v_aload_n F dX8_saves_23 0 rfl rfl ?_
          refine v_get (v := .ref (ad 2)) F inlX8 (ci := 8) rfl 1 (by decide) rfl wF_RX8_13 dX8_saves_24 0 rfl rfl ?_
          refine v_iload_n F dX8_saves_27 1 rfl rfl ?_
          refine v_bipush (v := nI 122) F dX8_saves_28 (by decide) ?_
          refine v_iadd F dX8_saves_30 ?_
          refine v_topi (nI (i + 122)) (nI_add i 122) ?_
          refine v_ialdN F dX8_saves_31 2 rfl (i + 122) rfl (by omega) (by decide) ((va_cpy S S 122 0 i) (i + 122)) rfl ?_
          refine v_iastN F dX8_saves_32 2 rfl i rfl (by omega) (by decide) (wM ad G (snp T n mo) (upd (va_cpy S S 122 0 i) i ((va_cpy S S 122 0 i) (i + 122)), 6) Xt Tw Qs Ks Lo Wi) rfl ?_
          refine v_iinc (lv' := [(1, .int (nI (i + 1))), (0, .ref (ad 0))]) F (nI (i + 1)) dX8_saves_33 rfl (nI_add i 1) (by decide) rfl ?_
          refine v_goto F 11 dX8_saves_36 (by decide) ?_
          refine v_w (w' := wM ad G (snp T n mo) (va_cpy S S 122 0 (i + 1), 6) Xt Tw Qs Ks Lo Wi) (congrArg (fun z_ => wM ad G (snp T n mo) z_ Xt Tw Qs Ks Lo Wi) (show (upd (va_cpy S S 122 0 i) i ((va_cpy S S 122 0 i) (i + 122)), 6) = (va_cpy S S 122 0 (i + 1), 6) by first | rw [← cpy_0] | rw [shf_s])) ?_
          refine v_st (w' := wM ad G (snp T n mo) (va_cpy S S 122 0 (i + 1), 6) Xt Tw Qs Ks Lo Wi) (pc' := 11) (st' := []) rfl rfl rfl [0, 1] (lv' := [(1, .int (nI (i + 1))), (0, .ref (ad 0))]) rfl ?_
          exact ih11 (i + 1) (by omega) (by omega)
    refine v_w (w' := wM ad G (snp T n mo) (va_cpy S S 122 0 0, 6) Xt Tw Qs Ks Lo Wi) (congrArg (fun z_ => wM ad G (snp T n mo) z_ Xt Tw Qs Ks Lo Wi) (show (S, 6) = (va_cpy S S 122 0 0, 6) by first | rw [← cpy_0] | rw [shf_s])) ?_
    refine v_st (w' := wM ad G (snp T n mo) (va_cpy S S 122 0 0, 6) Xt Tw Qs Ks Lo Wi) (pc' := 11) (st' := []) rfl rfl rfl [0, 1] (lv' := [(1, .int (nI 0)), (0, .ref (ad 0))]) rfl ?_
    exact L11 _ 0 (Nat.lt_succ_self _) (by omega)
set_option maxHeartbeats 4000000 in
set_option maxRecDepth 100000 in
theorem m_X8_comes (lau : Launch) (G : GT) (ad : Nat → Nat) (T : Nat → Int32) (n mo : Nat) (Hs : HT) (Xt : XT) (Tw : Nat) (Qs : QT) (Ks : KS) (Lo Wi : Nat → Int32) (sl off fm lm : Int32) (hn : n < 20) : MV lau G 0 yX8_comes cX8_comes 6 none [.ref (ad 0), .int sl, .int off, .int fm, .int lm] (wM ad G (snp T n mo) Hs Xt Tw Qs Ks Lo Wi) (fun u : Unit => wM ad G (snp (pAdd T n sl off fm lm) (n + 1) mo) Hs Xt Tw Qs Ks Lo Wi) (fun u => True) := by
  refine mv_of (by decide +kernel) (Nat.le_of_ble_eq_true rfl) ?_
  intro p e s m args below meth c A Q F hr hlk hQ
  refine v_st (w' := wM ad G (snp T n mo) Hs Xt Tw Qs Ks Lo Wi) (pc' := 0) (st' := []) rfl rfl rfl [0, 1, 2, 3, 4] (lv' := [(0, .ref (ad 0)), (1, .int sl), (2, .int off), (3, .int fm), (4, .int lm)]) rfl ?_
  refine v_iconst (v := nI 2) F dX8_comes_0 (by decide) ?_
  refine v_bipush (v := nI 6) F dX8_comes_1 (by decide) ?_
  refine v_aload_n F dX8_comes_3 0 rfl rfl ?_
  refine v_get (v := .ref (ad 1)) F inlX8 (ci := 8) rfl 0 (by decide) rfl wF_RX8_7 dX8_comes_4 0 rfl rfl ?_
  refine v_iconst (v := nI 1) F dX8_comes_7 (by decide) ?_
  refine v_ialdN F dX8_comes_8 1 rfl 1 rfl (by omega) (by decide) ((snp T n mo) 1) rfl ?_
  refine v_topi (nI n) rfl ?_
  refine v_imul F dX8_comes_9 ?_
  refine v_topi (nI (6 * n)) (pk_mul 6 n) ?_
  refine v_iadd F dX8_comes_10 ?_
  refine v_topi (nI (2 + (6 * n))) (nI_add 2 (6 * n)) ?_
  refine v_istore (lv' := [(5, .int (nI (2 + (6 * n)))), (0, .ref (ad 0)), (1, .int sl), (2, .int off), (3, .int fm), (4, .int lm)]) F dX8_comes_11 (by decide) rfl ?_
  refine v_aload_n F dX8_comes_13 0 rfl rfl ?_
  refine v_get (v := .ref (ad 1)) F inlX8 (ci := 8) rfl 0 (by decide) rfl wF_RX8_7 dX8_comes_14 0 rfl rfl ?_
  refine v_iload F dX8_comes_17 rfl ?_
  refine v_iload_n F dX8_comes_19 1 rfl rfl ?_
  refine v_iastN F dX8_comes_20 1 rfl (2 + (6 * n)) rfl (by omega) (by decide) (wM ad G (upd (snp T n mo) (2 + (6 * n)) sl) Hs Xt Tw Qs Ks Lo Wi) rfl ?_
  refine v_w (w' := wM ad G (snp (upd T ((n * 6) + 0) sl) n mo) Hs Xt Tw Qs Ks Lo Wi) (congrArg (fun z_ => wM ad G (z_) Hs Xt Tw Qs Ks Lo Wi) (upd_snp T n mo n 0 sl)) ?_
  refine v_aload_n F dX8_comes_21 0 rfl rfl ?_
  refine v_get (v := .ref (ad 1)) F inlX8 (ci := 8) rfl 0 (by decide) rfl wF_RX8_7 dX8_comes_22 0 rfl rfl ?_
  refine v_iload F dX8_comes_25 rfl ?_
  refine v_iconst (v := nI 1) F dX8_comes_27 (by decide) ?_
  refine v_iadd F dX8_comes_28 ?_
  refine v_topi (nI ((2 + (6 * n)) + 1)) (nI_add (2 + (6 * n)) 1) ?_
  refine v_iload_n F dX8_comes_29 2 rfl rfl ?_
  refine v_iastN F dX8_comes_30 1 rfl ((2 + (6 * n)) + 1) rfl (by omega) (by decide) (wM ad G (upd (snp (upd T ((n * 6) + 0) sl) n mo) ((2 + (6 * n)) + 1) off) Hs Xt Tw Qs Ks Lo Wi) rfl ?_
  refine v_w (w' := wM ad G (snp (upd (upd T ((n * 6) + 0) sl) ((n * 6) + 1) off) n mo) Hs Xt Tw Qs Ks Lo Wi) (congrArg (fun z_ => wM ad G (z_) Hs Xt Tw Qs Ks Lo Wi) (upd_snp (upd T ((n * 6) + 0) sl) n mo n 1 off)) ?_
  refine v_aload_n F dX8_comes_31 0 rfl rfl ?_
  refine v_get (v := .ref (ad 1)) F inlX8 (ci := 8) rfl 0 (by decide) rfl wF_RX8_7 dX8_comes_32 0 rfl rfl ?_
  refine v_iload F dX8_comes_35 rfl ?_
  refine v_iconst (v := nI 2) F dX8_comes_37 (by decide) ?_
  refine v_iadd F dX8_comes_38 ?_
  refine v_topi (nI ((2 + (6 * n)) + 2)) (nI_add (2 + (6 * n)) 2) ?_
  refine v_iconst (v := nI 0) F dX8_comes_39 (by decide) ?_
  refine v_iastN F dX8_comes_40 1 rfl ((2 + (6 * n)) + 2) rfl (by omega) (by decide) (wM ad G (upd (snp (upd (upd T ((n * 6) + 0) sl) ((n * 6) + 1) off) n mo) ((2 + (6 * n)) + 2) (nI 0)) Hs Xt Tw Qs Ks Lo Wi) rfl ?_
  refine v_w (w' := wM ad G (snp (upd (upd (upd T ((n * 6) + 0) sl) ((n * 6) + 1) off) ((n * 6) + 2) (nI 0)) n mo) Hs Xt Tw Qs Ks Lo Wi) (congrArg (fun z_ => wM ad G (z_) Hs Xt Tw Qs Ks Lo Wi) (upd_snp (upd (upd T ((n * 6) + 0) sl) ((n * 6) + 1) off) n mo n 2 (nI 0))) ?_
  refine v_aload_n F dX8_comes_41 0 rfl rfl ?_
  refine v_get (v := .ref (ad 1)) F inlX8 (ci := 8) rfl 0 (by decide) rfl wF_RX8_7 dX8_comes_42 0 rfl rfl ?_
  refine v_iload F dX8_comes_45 rfl ?_
  refine v_iconst (v := nI 3) F dX8_comes_47 (by decide) ?_
  refine v_iadd F dX8_comes_48 ?_
  refine v_topi (nI ((2 + (6 * n)) + 3)) (nI_add (2 + (6 * n)) 3) ?_
  refine v_bipush (v := nI 63) F dX8_comes_49 (by decide) ?_
  refine v_iastN F dX8_comes_51 1 rfl ((2 + (6 * n)) + 3) rfl (by omega) (by decide) (wM ad G (upd (snp (upd (upd (upd T ((n * 6) + 0) sl) ((n * 6) + 1) off) ((n * 6) + 2) (nI 0)) n mo) ((2 + (6 * n)) + 3) (nI 63)) Hs Xt Tw Qs Ks Lo Wi) rfl ?_
  refine v_w (w' := wM ad G (snp (upd (upd (upd (upd T ((n * 6) + 0) sl) ((n * 6) + 1) off) ((n * 6) + 2) (nI 0)) ((n * 6) + 3) (nI 63)) n mo) Hs Xt Tw Qs Ks Lo Wi) (congrArg (fun z_ => wM ad G (z_) Hs Xt Tw Qs Ks Lo Wi) (upd_snp (upd (upd (upd T ((n * 6) + 0) sl) ((n * 6) + 1) off) ((n * 6) + 2) (nI 0)) n mo n 3 (nI 63))) ?_
  refine v_aload_n F dX8_comes_52 0 rfl rfl ?_
  refine v_get (v := .ref (ad 1)) F inlX8 (ci := 8) rfl 0 (by decide) rfl wF_RX8_7 dX8_comes_53 0 rfl rfl ?_
  refine v_iload F dX8_comes_56 rfl ?_
  refine v_iconst (v := nI 4) F dX8_comes_58 (by decide) ?_
  refine v_iadd F dX8_comes_59 ?_
  refine v_topi (nI ((2 + (6 * n)) + 4)) (nI_add (2 + (6 * n)) 4) ?_
  refine v_iload_n F dX8_comes_60 3 rfl rfl ?_
  refine v_iastN F dX8_comes_61 1 rfl ((2 + (6 * n)) + 4) rfl (by omega) (by decide) (wM ad G (upd (snp (upd (upd (upd (upd T ((n * 6) + 0) sl) ((n * 6) + 1) off) ((n * 6) + 2) (nI 0)) ((n * 6) + 3) (nI 63)) n mo) ((2 + (6 * n)) + 4) fm) Hs Xt Tw Qs Ks Lo Wi) rfl ?_
  refine v_w (w' := wM ad G (snp (upd (upd (upd (upd (upd T ((n * 6) + 0) sl) ((n * 6) + 1) off) ((n * 6) + 2) (nI 0)) ((n * 6) + 3) (nI 63)) ((n * 6) + 4) fm) n mo) Hs Xt Tw Qs Ks Lo Wi) (congrArg (fun z_ => wM ad G (z_) Hs Xt Tw Qs Ks Lo Wi) (upd_snp (upd (upd (upd (upd T ((n * 6) + 0) sl) ((n * 6) + 1) off) ((n * 6) + 2) (nI 0)) ((n * 6) + 3) (nI 63)) n mo n 4 fm)) ?_
  refine v_aload_n F dX8_comes_62 0 rfl rfl ?_
  refine v_get (v := .ref (ad 1)) F inlX8 (ci := 8) rfl 0 (by decide) rfl wF_RX8_7 dX8_comes_63 0 rfl rfl ?_
  refine v_iload F dX8_comes_66 rfl ?_
  refine v_iconst (v := nI 5) F dX8_comes_68 (by decide) ?_
  refine v_iadd F dX8_comes_69 ?_
  refine v_topi (nI ((2 + (6 * n)) + 5)) (nI_add (2 + (6 * n)) 5) ?_
  refine v_iload F dX8_comes_70 rfl ?_
  refine v_iastN F dX8_comes_72 1 rfl ((2 + (6 * n)) + 5) rfl (by omega) (by decide) (wM ad G (upd (snp (upd (upd (upd (upd (upd T ((n * 6) + 0) sl) ((n * 6) + 1) off) ((n * 6) + 2) (nI 0)) ((n * 6) + 3) (nI 63)) ((n * 6) + 4) fm) n mo) ((2 + (6 * n)) + 5) lm) Hs Xt Tw Qs Ks Lo Wi) rfl ?_
  refine v_w (w' := wM ad G (snp (upd (upd (upd (upd (upd (upd T ((n * 6) + 0) sl) ((n * 6) + 1) off) ((n * 6) + 2) (nI 0)) ((n * 6) + 3) (nI 63)) ((n * 6) + 4) fm) ((n * 6) + 5) lm) n mo) Hs Xt Tw Qs Ks Lo Wi) (congrArg (fun z_ => wM ad G (z_) Hs Xt Tw Qs Ks Lo Wi) (upd_snp (upd (upd (upd (upd (upd T ((n * 6) + 0) sl) ((n * 6) + 1) off) ((n * 6) + 2) (nI 0)) ((n * 6) + 3) (nI 63)) ((n * 6) + 4) fm) n mo n 5 lm)) ?_
  refine v_aload_n F dX8_comes_73 0 rfl rfl ?_
  refine v_get (v := .ref (ad 1)) F inlX8 (ci := 8) rfl 0 (by decide) rfl wF_RX8_7 dX8_comes_74 0 rfl rfl ?_
  refine v_iconst (v := nI 1) F dX8_comes_77 (by decide) ?_
  refine v_dup2_11 F dX8_comes_78 rfl rfl ?_
  refine v_ialdN F dX8_comes_79 1 rfl 1 rfl (by omega) (by decide) ((snp (upd (upd (upd (upd (upd (upd T ((n * 6) + 0) sl) ((n * 6) + 1) off) ((n * 6) + 2) (nI 0)) ((n * 6) + 3) (nI 63)) ((n * 6) + 4) fm) ((n * 6) + 5) lm) n mo) 1) rfl ?_
  refine v_topi (nI n) rfl ?_
  refine v_iconst (v := nI 1) F dX8_comes_80 (by decide) ?_
  refine v_iadd F dX8_comes_81 ?_
  refine v_topi (nI (n + 1)) (nI_add n 1) ?_
  refine v_iastN F dX8_comes_82 1 rfl 1 rfl (by omega) (by decide) (wM ad G (upd (snp (upd (upd (upd (upd (upd (upd T ((n * 6) + 0) sl) ((n * 6) + 1) off) ((n * 6) + 2) (nI 0)) ((n * 6) + 3) (nI 63)) ((n * 6) + 4) fm) ((n * 6) + 5) lm) n mo) 1 (nI (n + 1))) Hs Xt Tw Qs Ks Lo Wi) rfl ?_
  refine v_w (w' := wM ad G (snp (upd (upd (upd (upd (upd (upd T ((n * 6) + 0) sl) ((n * 6) + 1) off) ((n * 6) + 2) (nI 0)) ((n * 6) + 3) (nI 63)) ((n * 6) + 4) fm) ((n * 6) + 5) lm) (n + 1) mo) Hs Xt Tw Qs Ks Lo Wi) (congrArg (fun z_ => wM ad G (z_) Hs Xt Tw Qs Ks Lo Wi) upd_snp1) ?_
  refine v_w (w' := wM ad G (snp (pAdd T n sl off fm lm) (n + 1) mo) Hs Xt Tw Qs Ks Lo Wi) (congrArg (fun z_ => wM ad G z_ Hs Xt Tw Qs Ks Lo Wi) (show (snp (upd (upd (upd (upd (upd (upd T ((n * 6) + 0) sl) ((n * 6) + 1) off) ((n * 6) + 2) (nI 0)) ((n * 6) + 3) (nI 63)) ((n * 6) + 4) fm) ((n * 6) + 5) lm) (n + 1) mo) = (snp (pAdd T n sl off fm lm) (n + 1) mo) by rfl)) ?_
  exact v_vret F hr hlk hQ dX8_comes_83 (()) rfl (by trivial)
set_option maxHeartbeats 4000000 in
set_option maxRecDepth 100000 in
theorem m_X8_goes (lau : Launch) (G : GT) (ad : Nat → Nat) (T : Nat → Int32) (n mo : Nat) (Hs : HT) (Xt : XT) (Tw : Nat) (Qs : QT) (Ks : KS) (Lo Wi : Nat → Int32) (l : Nat) (hl : l < n) (hn : n ≤ 20) : MV lau G 0 yX8_goes cX8_goes 3 none [.ref (ad 0), .int (nI l)] (wM ad G (snp T n mo) Hs Xt Tw Qs Ks Lo Wi) (fun u : Unit => wM ad G (snp (pDrop T n l) (n - 1) mo) Hs Xt Tw Qs Ks Lo Wi) (fun u => True) := by
  refine mv_of (by decide +kernel) (Nat.le_of_ble_eq_true rfl) ?_
  intro p e s m args below meth c A Q F hr hlk hQ
  refine v_st (w' := wM ad G (snp T n mo) Hs Xt Tw Qs Ks Lo Wi) (pc' := 0) (st' := []) rfl rfl rfl [0, 1] (lv' := [(0, .ref (ad 0)), (1, .int (nI l))]) rfl ?_
  refine v_aload_n F dX8_goes_0 0 rfl rfl ?_
  refine v_get (v := .ref (ad 1)) F inlX8 (ci := 8) rfl 0 (by decide) rfl wF_RX8_7 dX8_goes_1 0 rfl rfl ?_
  refine v_iconst (v := nI 1) F dX8_goes_4 (by decide) ?_
  refine v_dup2_11 F dX8_goes_5 rfl rfl ?_
  refine v_ialdN F dX8_goes_6 1 rfl 1 rfl (by omega) (by decide) ((snp T n mo) 1) rfl ?_
  refine v_topi (nI n) rfl ?_
  refine v_iconst (v := nI 1) F dX8_goes_7 (by decide) ?_
  refine v_isub F dX8_goes_8 ?_
  refine v_topi (nI (n - 1)) (pk_sub (by omega)) ?_
  refine v_iastN F dX8_goes_9 1 rfl 1 rfl (by omega) (by decide) (wM ad G (upd (snp T n mo) 1 (nI (n - 1))) Hs Xt Tw Qs Ks Lo Wi) rfl ?_
  refine v_w (w' := wM ad G (snp T (n - 1) mo) Hs Xt Tw Qs Ks Lo Wi) (congrArg (fun z_ => wM ad G (z_) Hs Xt Tw Qs Ks Lo Wi) upd_snp1) ?_
  refine v_iconst (v := nI 2) F dX8_goes_10 (by decide) ?_
  refine v_bipush (v := nI 6) F dX8_goes_11 (by decide) ?_
  refine v_iload_n F dX8_goes_13 1 rfl rfl ?_
  refine v_imul F dX8_goes_14 ?_
  refine v_topi (nI (6 * l)) (pk_mul 6 l) ?_
  refine v_iadd F dX8_goes_15 ?_
  refine v_topi (nI (2 + (6 * l))) (nI_add 2 (6 * l)) ?_
  refine v_istore_n (lv' := [(2, .int (nI (2 + (6 * l)))), (0, .ref (ad 0)), (1, .int (nI l))]) F dX8_goes_16 2 rfl (by decide) rfl ?_
  have L17 : ∀ (k_ : Nat) (k : Nat), n * 6 - (l + 1) * 6 - k < k_ → (k ≤ n * 6 - (l + 1) * 6) → V p lau e (RM 0) s m args below meth c 3 G A Q (wM ad G (snp (va_cpy T T ((l + 1) * 6) (l * 6) k) (n - 1) mo) Hs Xt Tw Qs Ks Lo Wi) 0 0 17 [(2, .int (nI ((2 + (6 * l)) + k))), (0, .ref (ad 0)), (1, .int (nI l))] [] := by
    intro k_
    induction k_ with
    | zero => exact fun k hk_ hk => absurd hk_ (Nat.not_lt_zero _)
    | succ k_ ih17 =>
      intro k hk_17 hk
      refine v_iload_n F dX8_goes_17 2 rfl rfl ?_
      refine v_iconst (v := nI 2) F dX8_goes_18 (by decide) ?_
      refine v_bipush (v := nI 6) F dX8_goes_19 (by decide) ?_
      refine v_aload_n F dX8_goes_21 0 rfl rfl ?_
      refine v_get (v := .ref (ad 1)) F inlX8 (ci := 8) rfl 0 (by decide) rfl wF_RX8_7 dX8_goes_22 0 rfl rfl ?_
      refine v_iconst (v := nI 1) F dX8_goes_25 (by decide) ?_
      refine v_ialdN F dX8_goes_26 1 rfl 1 rfl (by omega) (by decide) ((snp (va_cpy T T ((l + 1) * 6) (l * 6) k) (n - 1) mo) 1) rfl ?_
      refine v_topi (nI (n - 1)) rfl ?_
      refine v_imul F dX8_goes_27 ?_
      refine v_topi (nI (6 * (n - 1))) (pk_mul 6 (n - 1)) ?_
      refine v_iadd F dX8_goes_28 ?_
      refine v_topi (nI (2 + (6 * (n - 1)))) (nI_add 2 (6 * (n - 1))) ?_
      refine v_icmp_ge F 53 dX8_goes_29 (by decide) (fun c1 => ?_) (fun c1 => ?_)
      · replace c1 := nG (a := ((2 + (6 * l)) + k)) (b := (2 + (6 * (n - 1)))) (by omega) (by omega) c1
        have hk9 : k = n * 6 - (l + 1) * 6 := by omega
        subst hk9
        refine v_w (w' := wM ad G (snp (pDrop T n l) (n - 1) mo) Hs Xt Tw Qs Ks Lo Wi) (congrArg (fun z_ => wM ad G z_ Hs Xt Tw Qs Ks Lo Wi) (show (snp (va_cpy T T ((l + 1) * 6) (l * 6) (n * 6 - (l + 1) * 6)) (n - 1) mo) = (snp (pDrop T n l) (n - 1) mo) by rfl)) ?_
        exact v_vret F hr hlk hQ dX8_goes_53 (()) rfl (by trivial)
      · replace c1 := nGn (a := ((2 + (6 * l)) + k)) (b := (2 + (6 * (n - 1)))) (by omega) (by omega) c1
        refine v_aload_n F dX8_goes_32 0 rfl rfl ?_
        refine v_get (v := .ref (ad 1)) F inlX8 (ci := 8) rfl 0 (by decide) rfl wF_RX8_7 dX8_goes_33 0 rfl rfl ?_
        refine v_iload_n F dX8_goes_36 2 rfl rfl ?_
        refine v_aload_n F dX8_goes_37 0 rfl rfl ?_
        refine v_get (v := .ref (ad 1)) F inlX8 (ci := 8) rfl 0 (by decide) rfl wF_RX8_7 dX8_goes_38 0 rfl rfl ?_
        refine v_iload_n F dX8_goes_41 2 rfl rfl ?_
        refine v_bipush (v := nI 6) F dX8_goes_42 (by decide) ?_
        refine v_iadd F dX8_goes_44 ?_
        refine v_topi (nI (((2 + (6 * l)) + k) + 6)) (nI_add ((2 + (6 * l)) + k) 6) ?_
        refine v_ialdN F dX8_goes_45 1 rfl (((2 + (6 * l)) + k) + 6) rfl (by omega) (by decide) ((snp (va_cpy T T ((l + 1) * 6) (l * 6) k) (n - 1) mo) (((2 + (6 * l)) + k) + 6)) rfl ?_
        refine v_topi ((va_cpy T T ((l + 1) * 6) (l * 6) k) ((l * 6) + (k + 6))) (snp_at (va_cpy T T ((l + 1) * 6) (l * 6) k) (n - 1) mo l (k + 6)) ?_
        refine v_topi ((T ((l + 1) * 6 + k))) (go_at) ?_
        refine v_iastN F dX8_goes_46 1 rfl ((2 + (6 * l)) + k) rfl (by omega) (by decide) (wM ad G (upd (snp (va_cpy T T ((l + 1) * 6) (l * 6) k) (n - 1) mo) ((2 + (6 * l)) + k) (T ((l + 1) * 6 + k))) Hs Xt Tw Qs Ks Lo Wi) rfl ?_
        refine v_w (w' := wM ad G (snp (upd (va_cpy T T ((l + 1) * 6) (l * 6) k) ((l * 6) + k) (T ((l + 1) * 6 + k))) (n - 1) mo) Hs Xt Tw Qs Ks Lo Wi) (congrArg (fun z_ => wM ad G (z_) Hs Xt Tw Qs Ks Lo Wi) (upd_snp (va_cpy T T ((l + 1) * 6) (l * 6) k) (n - 1) mo l k (T ((l + 1) * 6 + k)))) ?_
        refine v_iinc (lv' := [(2, .int (nI (((2 + (6 * l)) + k) + 1))), (0, .ref (ad 0)), (1, .int (nI l))]) F (nI (((2 + (6 * l)) + k) + 1)) dX8_goes_47 rfl (nI_add ((2 + (6 * l)) + k) 1) (by decide) rfl ?_
        refine v_goto F 17 dX8_goes_50 (by decide) ?_
        refine v_w (w' := wM ad G (snp (va_cpy T T ((l + 1) * 6) (l * 6) (k + 1)) (n - 1) mo) Hs Xt Tw Qs Ks Lo Wi) (congrArg (fun z_ => wM ad G z_ Hs Xt Tw Qs Ks Lo Wi) (show (snp (upd (va_cpy T T ((l + 1) * 6) (l * 6) k) ((l * 6) + k) (T ((l + 1) * 6 + k))) (n - 1) mo) = (snp (va_cpy T T ((l + 1) * 6) (l * 6) (k + 1)) (n - 1) mo) by first | (rw [← cpy_0]; done) | exact go_s)) ?_
        refine v_st (w' := wM ad G (snp (va_cpy T T ((l + 1) * 6) (l * 6) (k + 1)) (n - 1) mo) Hs Xt Tw Qs Ks Lo Wi) (pc' := 17) (st' := []) rfl rfl rfl [0, 1, 2] (lv' := [(2, .int (nI (((2 + (6 * l)) + k) + 1))), (0, .ref (ad 0)), (1, .int (nI l))]) rfl ?_
        exact ih17 (k + 1) (by omega) (by omega)
  refine v_w (w' := wM ad G (snp (va_cpy T T ((l + 1) * 6) (l * 6) 0) (n - 1) mo) Hs Xt Tw Qs Ks Lo Wi) (congrArg (fun z_ => wM ad G z_ Hs Xt Tw Qs Ks Lo Wi) (show (snp T (n - 1) mo) = (snp (va_cpy T T ((l + 1) * 6) (l * 6) 0) (n - 1) mo) by first | (rw [← cpy_0]; done) | exact go_s)) ?_
  refine v_st (w' := wM ad G (snp (va_cpy T T ((l + 1) * 6) (l * 6) 0) (n - 1) mo) Hs Xt Tw Qs Ks Lo Wi) (pc' := 17) (st' := []) rfl rfl rfl [0, 1, 2] (lv' := [(2, .int (nI (2 + (6 * l)))), (0, .ref (ad 0)), (1, .int (nI l))]) rfl ?_
  exact L17 _ 0 (Nat.lt_succ_self _) (by omega)
set_option maxHeartbeats 4000000 in
set_option maxRecDepth 100000 in
theorem m_X8_changes (lau : Launch) (G : GT) (ad : Nat → Nat) (T : Nat → Int32) (n mo : Nat) (Hs : HT) (Xt : XT) (Tw : Nat) (Qs : QT) (Ks : KS) (Lo Wi : Nat → Int32) (l k : Nat) (a b : Int32) (hl : l < 20) (hk : k < 5) : MI lau G 1 yX8_changes cX8_changes 6 (some .int) [.ref (ad 0), .int (nI l), .int (nI k), .int a, .int b] (wM ad G (snp T n mo) Hs Xt Tw Qs Ks Lo Wi) (fun u : Unit => wM ad G (snp (upd (upd T ((l * 6) + k) a) ((l * 6) + (k + 1)) b) n mo) Hs Xt Tw Qs Ks Lo Wi) (fun r u => r = (T ((l * 6) + (k + 1)) - T ((l * 6) + k) + nI 1)) := by
  refine mi_of (by decide +kernel) (Nat.le_of_ble_eq_true rfl) ?_
  intro p e s m args below meth c A Q F hr hlk hQ
  refine v_st (w' := wM ad G (snp T n mo) Hs Xt Tw Qs Ks Lo Wi) (pc' := 0) (st' := []) rfl rfl rfl [0, 1, 2, 3, 4] (lv' := [(0, .ref (ad 0)), (1, .int (nI l)), (2, .int (nI k)), (3, .int a), (4, .int b)]) rfl ?_
  refine v_aload_n F dX8_changes_0 0 rfl rfl ?_
  refine v_iload_n F dX8_changes_1 1 rfl rfl ?_
  refine v_iload_n F dX8_changes_2 2 rfl rfl ?_
  refine v_iconst (v := nI 1) F dX8_changes_3 (by decide) ?_
  refine v_iadd F dX8_changes_4 ?_
  refine v_topi (nI (k + 1)) (nI_add k 1) ?_
  refine v_cVIF F cs_RX8_50 dX8_changes_5 0 (ci := 8) rfl rfl (m_X8_of lau G ad T n mo Hs Xt Tw Qs Ks Lo Wi l (k + 1) (by omega) (by omega)) (by decide) rfl rfl (Nat.le_of_ble_eq_true rfl) ⟨Nat.zero_le _, Nat.zero_le _⟩ (fun r1 u2 w3 => ?_)
  subst w3
  refine v_aload_n F dX8_changes_8 0 rfl rfl ?_
  refine v_iload_n F dX8_changes_9 1 rfl rfl ?_
  refine v_iload_n F dX8_changes_10 2 rfl rfl ?_
  refine v_cVIF F cs_RX8_50 dX8_changes_11 0 (ci := 8) rfl rfl (m_X8_of lau G ad T n mo Hs Xt Tw Qs Ks Lo Wi l k (by omega) (by omega)) (by decide) rfl rfl (Nat.le_of_ble_eq_true rfl) ⟨Nat.zero_le _, Nat.zero_le _⟩ (fun r4 u5 w6 => ?_)
  subst w6
  refine v_isub F dX8_changes_14 ?_
  refine v_iconst (v := nI 1) F dX8_changes_15 (by decide) ?_
  refine v_iadd F dX8_changes_16 ?_
  refine v_istore (lv' := [(5, .int (((T ((l * 6) + (k + 1))) - (T ((l * 6) + k))) + nI 1)), (0, .ref (ad 0)), (1, .int (nI l)), (2, .int (nI k)), (3, .int a), (4, .int b)]) F dX8_changes_17 (by decide) rfl ?_
  refine v_aload_n F dX8_changes_19 0 rfl rfl ?_
  refine v_get (v := .ref (ad 1)) F inlX8 (ci := 8) rfl 0 (by decide) rfl wF_RX8_7 dX8_changes_20 0 rfl rfl ?_
  refine v_iconst (v := nI 2) F dX8_changes_23 (by decide) ?_
  refine v_bipush (v := nI 6) F dX8_changes_24 (by decide) ?_
  refine v_iload_n F dX8_changes_26 1 rfl rfl ?_
  refine v_imul F dX8_changes_27 ?_
  refine v_topi (nI (6 * l)) (pk_mul 6 l) ?_
  refine v_iadd F dX8_changes_28 ?_
  refine v_topi (nI (2 + (6 * l))) (nI_add 2 (6 * l)) ?_
  refine v_iload_n F dX8_changes_29 2 rfl rfl ?_
  refine v_iadd F dX8_changes_30 ?_
  refine v_topi (nI ((2 + (6 * l)) + k)) (nI_add (2 + (6 * l)) k) ?_
  refine v_iload_n F dX8_changes_31 3 rfl rfl ?_
  refine v_iastN F dX8_changes_32 1 rfl ((2 + (6 * l)) + k) rfl (by omega) (by decide) (wM ad G (upd (snp T n mo) ((2 + (6 * l)) + k) a) Hs Xt Tw Qs Ks Lo Wi) rfl ?_
  refine v_w (w' := wM ad G (snp (upd T ((l * 6) + k) a) n mo) Hs Xt Tw Qs Ks Lo Wi) (congrArg (fun z_ => wM ad G (z_) Hs Xt Tw Qs Ks Lo Wi) (upd_snp T n mo l k a)) ?_
  refine v_aload_n F dX8_changes_33 0 rfl rfl ?_
  refine v_get (v := .ref (ad 1)) F inlX8 (ci := 8) rfl 0 (by decide) rfl wF_RX8_7 dX8_changes_34 0 rfl rfl ?_
  refine v_iconst (v := nI 2) F dX8_changes_37 (by decide) ?_
  refine v_bipush (v := nI 6) F dX8_changes_38 (by decide) ?_
  refine v_iload_n F dX8_changes_40 1 rfl rfl ?_
  refine v_imul F dX8_changes_41 ?_
  refine v_topi (nI (6 * l)) (pk_mul 6 l) ?_
  refine v_iadd F dX8_changes_42 ?_
  refine v_topi (nI (2 + (6 * l))) (nI_add 2 (6 * l)) ?_
  refine v_iload_n F dX8_changes_43 2 rfl rfl ?_
  refine v_iadd F dX8_changes_44 ?_
  refine v_topi (nI ((2 + (6 * l)) + k)) (nI_add (2 + (6 * l)) k) ?_
  refine v_iconst (v := nI 1) F dX8_changes_45 (by decide) ?_
  refine v_iadd F dX8_changes_46 ?_
  refine v_topi (nI (((2 + (6 * l)) + k) + 1)) (nI_add ((2 + (6 * l)) + k) 1) ?_
  refine v_iload F dX8_changes_47 rfl ?_
  refine v_iastN F dX8_changes_49 1 rfl (((2 + (6 * l)) + k) + 1) rfl (by omega) (by decide) (wM ad G (upd (snp (upd T ((l * 6) + k) a) n mo) (((2 + (6 * l)) + k) + 1) b) Hs Xt Tw Qs Ks Lo Wi) rfl ?_
  refine v_w (w' := wM ad G (snp (upd (upd T ((l * 6) + k) a) ((l * 6) + (k + 1)) b) n mo) Hs Xt Tw Qs Ks Lo Wi) (congrArg (fun z_ => wM ad G (z_) Hs Xt Tw Qs Ks Lo Wi) (upd_snp (upd T ((l * 6) + k) a) n mo l (k + 1) b)) ?_
  refine v_iload F dX8_changes_50 rfl ?_
  exact v_iret F hr hlk hQ dX8_changes_52 (()) rfl (by rfl)
theorem cs_RX8_46 : CSV RX8 46 RX8 yX8_fails cX8_fails 2 (some .int) 1 := ⟨wC_yX8_fails, wM_RX8_46, wIm_yX8_fails, wSe_yX8_fails, wI_RX8, by decide +kernel, by decide⟩
set_option maxHeartbeats 4000000 in
set_option maxRecDepth 100000 in
theorem m_X8_undo (lau : Launch) (G : GT) (ad : Nat → Nat) (T : Nat → Int32) (n mo : Nat) (S : Nat → Int32) (h : Nat) (Xt : XT) (Tw : Nat) (Qs : QT) (Ks : KS) (Lo Wi : Nat → Int32) (n' mo' : Nat) (hh : h ≤ 6) (hn' : 0 < h → S ((h - 1) * 122 + 1) = nI n') (hmo' : 0 < h → S ((h - 1) * 122) = nI mo') : MI lau G 6 yX8_undo cX8_undo 2 (some .int) [.ref (ad 0)] (wM ad G (snp T n mo) (S, h) Xt Tw Qs Ks Lo Wi) (fun u : MS => wM ad G u.1 u.2.1 u.2.2.1 (xUndo h) u.2.2.2.1 u.2.2.2.2.1 u.2.2.2.2.2.1 u.2.2.2.2.2.2) (fun r u => (xUndo h = 0 → r = nI (h - 1) ∧ u.1 = snp (va_cpy S T ((h - 1) * 122 + 2) 0 120) n' mo' ∧ u.2.1 = (S, h - 1) ∧ u.2.2.1 = Xt) ∧ (¬ xUndo h = 0 → u.1 = snp T n mo ∧ u.2.1 = (S, h) ∧ u.2.2.1 = Xt)) := by
  refine mi_of (by decide +kernel) (Nat.le_of_ble_eq_true rfl) ?_
  intro p e s m args below meth c A Q F hr hlk hQ
  refine v_st (w' := wM ad G (snp T n mo) (S, h) Xt Tw Qs Ks Lo Wi) (pc' := 0) (st' := []) rfl rfl rfl [0] (lv' := [(0, .ref (ad 0))]) rfl ?_
  refine v_aload_n F dX8_undo_0 0 rfl rfl ?_
  refine v_iconst (v := nI 0) F dX8_undo_1 (by decide) ?_
  refine v_put F inlX8 (ci := 8) rfl tyX8 tyX8_ok nmX8 5 (by decide) rfl rfl wF_RX8_35 dX8_undo_2 (ty := .int) (by decide +kernel) rfl rfl 0 rfl (Nat.le_of_ble_eq_true rfl) (wM ad G (snp T n mo) (S, h) Xt (0) Qs Ks Lo Wi) rfl ?_
  refine v_aload_n F dX8_undo_5 0 rfl rfl ?_
  refine v_get (v := .int (nI h)) F inlX8 (ci := 8) rfl 2 (by decide) rfl wF_RX8_43 dX8_undo_6 0 rfl rfl ?_
  refine v_if_ne F 18 dX8_undo_9 (by decide) (fun c1 => ?_) (fun c1 => ?_)
  · replace c1 := nEn (a := h) (b := 0) (by omega) (by decide) c1
    refine v_aload_n F dX8_undo_18 0 rfl rfl ?_
    refine v_dup F dX8_undo_19 rfl ?_
    refine v_get (v := .int (nI h)) F inlX8 (ci := 8) rfl 2 (by decide) rfl wF_RX8_43 dX8_undo_20 0 rfl rfl ?_
    refine v_iconst (v := nI 1) F dX8_undo_23 (by decide) ?_
    refine v_isub F dX8_undo_24 ?_
    refine v_topi (nI (h - 1)) (pk_sub (by omega)) ?_
    refine v_put F inlX8 (ci := 8) rfl tyX8 tyX8_ok nmX8 2 (by decide) rfl rfl wF_RX8_43 dX8_undo_25 (ty := .int) (by decide +kernel) rfl rfl 0 rfl (Nat.le_of_ble_eq_true rfl) (wM ad G (snp T n mo) (S, h - 1) Xt (0) Qs Ks Lo Wi) rfl ?_
    refine v_iconst (v := nI 0) F dX8_undo_28 (by decide) ?_
    refine v_istore_n (lv' := [(1, .int (nI 0)), (0, .ref (ad 0))]) F dX8_undo_29 1 rfl (by decide) rfl ?_
    have L30 : ∀ (k_ : Nat) (k : Nat), 122 - k < k_ → (k ≤ 122) → V p lau e (RM 6) s m args below meth c 2 G A Q (wM ad G (va_cpy S (snp T n mo) (122 * (h - 1)) 0 k) (S, h - 1) Xt (0) Qs Ks Lo Wi) 0 0 30 [(1, .int (nI k)), (0, .ref (ad 0))] [] := by
      intro k_
      induction k_ with
      | zero => exact fun k hk_ hk => absurd hk_ (Nat.not_lt_zero _)
      | succ k_ ih30 =>
        intro k hk_30 hk
        refine v_iload_n F dX8_undo_30 1 rfl rfl ?_
        refine v_bipush (v := nI 122) F dX8_undo_31 (by decide) ?_
        refine v_icmp_ge F 62 dX8_undo_33 (by decide) (fun c2 => ?_) (fun c2 => ?_)
        · replace c2 := nG (a := k) (b := 122) (by omega) (by decide) c2
          have hk9 : k = 122 := by omega
          subst hk9
          refine v_aload_n F dX8_undo_62 0 rfl rfl ?_
          refine v_get (v := .int (nI (h - 1))) F inlX8 (ci := 8) rfl 2 (by decide) rfl wF_RX8_43 dX8_undo_63 0 rfl rfl ?_
          refine v_w (w' := wM ad G (va_cpy S (snp T n mo) (122 * (h - 1)) 0 122) (S, h - 1) Xt (xUndo h) Qs Ks Lo Wi) (congrArg (fun z_ => wM ad G (va_cpy S (snp T n mo) (122 * (h - 1)) 0 122) (S, h - 1) Xt z_ Qs Ks Lo Wi) (show (0) = (xUndo h) by simp [xUndo, *])) ?_
          exact v_iret F hr hlk hQ dX8_undo_66 (((va_cpy S (snp T n mo) (122 * (h - 1)) 0 122), (S, h - 1), Xt, Qs, Ks, Lo, Wi)) rfl (by first | exact ⟨fun q => absurd q (by simp [xUndo, *]; done), fun _ => ⟨rfl, rfl, rfl⟩⟩ | exact ⟨fun _ => ⟨by rfl, by exact un_a (hn' (by omega)) (hmo' (by omega)), by rfl, by rfl⟩, fun q => absurd (by simp [xUndo, *]) q⟩)
        · replace c2 := nGn (a := k) (b := 122) (by omega) (by decide) c2
          refine v_aload_n F dX8_undo_36 0 rfl rfl ?_
          refine v_get (v := .ref (ad 1)) F inlX8 (ci := 8) rfl 0 (by decide) rfl wF_RX8_7 dX8_undo_37 0 rfl rfl ?_
          refine v_iload_n F dX8_undo_40 1 rfl rfl ?_
          refine v_aload_n F dX8_undo_41 0 rfl rfl ?_
          refine v_get (v := .ref (ad 2)) F inlX8 (ci := 8) rfl 1 (by decide) rfl wF_RX8_13 dX8_undo_42 0 rfl rfl ?_
          refine v_bipush (v := nI 122) F dX8_undo_45 (by decide) ?_
          refine v_aload_n F dX8_undo_47 0 rfl rfl ?_
          refine v_get (v := .int (nI (h - 1))) F inlX8 (ci := 8) rfl 2 (by decide) rfl wF_RX8_43 dX8_undo_48 0 rfl rfl ?_
          refine v_imul F dX8_undo_51 ?_
          refine v_topi (nI (122 * (h - 1))) (pk_mul 122 (h - 1)) ?_
          refine v_iload_n F dX8_undo_52 1 rfl rfl ?_
          refine v_iadd F dX8_undo_53 ?_
          refine v_topi (nI ((122 * (h - 1)) + k)) (nI_add (122 * (h - 1)) k) ?_
          refine v_ialdN F dX8_undo_54 2 rfl ((122 * (h - 1)) + k) rfl (by omega) (by decide) (S ((122 * (h - 1)) + k)) rfl ?_
          refine v_iastN F dX8_undo_55 1 rfl k rfl (by omega) (by decide) (wM ad G (upd (va_cpy S (snp T n mo) (122 * (h - 1)) 0 k) k (S ((122 * (h - 1)) + k))) (S, h - 1) Xt (0) Qs Ks Lo Wi) rfl ?_
          refine v_iinc (lv' := [(1, .int (nI (k + 1))), (0, .ref (ad 0))]) F (nI (k + 1)) dX8_undo_56 rfl (nI_add k 1) (by decide) rfl ?_
          refine v_goto F 30 dX8_undo_59 (by decide) ?_
          refine v_w (w' := wM ad G (va_cpy S (snp T n mo) (122 * (h - 1)) 0 (k + 1)) (S, h - 1) Xt (0) Qs Ks Lo Wi) (congrArg (fun z_ => wM ad G z_ (S, h - 1) Xt (0) Qs Ks Lo Wi) (show (upd (va_cpy S (snp T n mo) (122 * (h - 1)) 0 k) k (S ((122 * (h - 1)) + k))) = (va_cpy S (snp T n mo) (122 * (h - 1)) 0 (k + 1)) by first | (rw [← cpy_0]; done) | rw [← cpy_s, Nat.zero_add])) ?_
          refine v_st (w' := wM ad G (va_cpy S (snp T n mo) (122 * (h - 1)) 0 (k + 1)) (S, h - 1) Xt (0) Qs Ks Lo Wi) (pc' := 30) (st' := []) rfl rfl rfl [0, 1] (lv' := [(1, .int (nI (k + 1))), (0, .ref (ad 0))]) rfl ?_
          exact ih30 (k + 1) (by omega) (by omega)
    refine v_w (w' := wM ad G (va_cpy S (snp T n mo) (122 * (h - 1)) 0 0) (S, h - 1) Xt (0) Qs Ks Lo Wi) (congrArg (fun z_ => wM ad G z_ (S, h - 1) Xt (0) Qs Ks Lo Wi) (show (snp T n mo) = (va_cpy S (snp T n mo) (122 * (h - 1)) 0 0) by first | (rw [← cpy_0]; done) | rw [← cpy_s, Nat.zero_add])) ?_
    refine v_st (w' := wM ad G (va_cpy S (snp T n mo) (122 * (h - 1)) 0 0) (S, h - 1) Xt (0) Qs Ks Lo Wi) (pc' := 30) (st' := []) rfl rfl rfl [0, 1] (lv' := [(1, .int (nI 0)), (0, .ref (ad 0))]) rfl ?_
    exact L30 _ 0 (Nat.lt_succ_self _) (by omega)
  · replace c1 := nE (a := h) (b := 0) (by omega) (by decide) c1
    refine v_aload_n F dX8_undo_12 0 rfl rfl ?_
    refine v_iconst (v := nI 1) F dX8_undo_13 (by decide) ?_
    refine v_cVIF F cs_RX8_46 dX8_undo_14 0 (ci := 8) rfl rfl (m_X8_fails lau G ad (snp T n mo) (S, h) Xt (0) Qs Ks Lo Wi 1 ) (by decide) rfl rfl (Nat.le_of_ble_eq_true rfl) ⟨Nat.zero_le _, Nat.zero_le _⟩ (fun r3 u4 w5 => ?_)
    subst w5
    refine v_w (w' := wM ad G (snp T n mo) (S, h) Xt (xUndo h) Qs Ks Lo Wi) (congrArg (fun z_ => wM ad G (snp T n mo) (S, h) Xt z_ Qs Ks Lo Wi) (show 1 = (xUndo h) by simp [xUndo, *])) ?_
    exact v_iret F hr hlk hQ dX8_undo_17 (((snp T n mo), (S, h), Xt, Qs, Ks, Lo, Wi)) rfl (by first | exact ⟨fun q => absurd q (by simp [xUndo, *]; done), fun _ => ⟨rfl, rfl, rfl⟩⟩ | exact ⟨fun _ => ⟨by rfl, by exact un_a (hn' (by omega)) (hmo' (by omega)), by rfl, by rfl⟩, fun q => absurd (by simp [xUndo, *]) q⟩)
theorem cs_RX8_64 : CSS RX8 64 yX8_isSlope cX8_isSlope 1 (some .boolean) 1 := ⟨wC_yX8_isSlope, wM_RX8_64, wSt_yX8_isSlope, wI_RX8, by decide +kernel, by decide⟩
theorem cs_RX8_68 : CSS RX8 68 yX8_isOffset cX8_isOffset 1 (some .boolean) 1 := ⟨wC_yX8_isOffset, wM_RX8_68, wSt_yX8_isOffset, wI_RX8, by decide +kernel, by decide⟩
theorem cs_RX8_71 : CSV RX8 71 RX8 yX8_saves cX8_saves 2 none 0 := ⟨wC_yX8_saves, wM_RX8_71, wIm_yX8_saves, wSe_yX8_saves, wI_RX8, by decide +kernel, by decide⟩
theorem cs_RX8_74 : CSV RX8 74 RX8 yX8_comes cX8_comes 6 none 4 := ⟨wC_yX8_comes, wM_RX8_74, wIm_yX8_comes, wSe_yX8_comes, wI_RX8, by decide +kernel, by decide⟩
set_option maxHeartbeats 4000000 in
set_option maxRecDepth 100000 in
theorem m_X8_add (lau : Launch) (G : GT) (ad : Nat → Nat) (T : Nat → Int32) (n mo : Nat) (S : Nat → Int32) (h : Nat) (Xt : XT) (Tw : Nat) (Qs : QT) (Ks : KS) (Lo Wi : Nat → Int32) (sl off : Int32) (hn : n ≤ 20) (hh : h ≤ 6) : MI lau G 6 yX8_add cX8_add 3 (some .int) [.ref (ad 0), .int sl, .int off] (wM ad G (snp T n mo) (S, h) Xt Tw Qs Ks Lo Wi) (fun u : MS => wM ad G u.1 u.2.1 u.2.2.1 (xAdd n sl off) u.2.2.2.1 u.2.2.2.2.1 u.2.2.2.2.2.1 u.2.2.2.2.2.2) (fun r u => (xAdd n sl off = 0 → r = nI n ∧ u.1 = snp (pAdd T n sl off (nI 0) (nI 99)) (n + 1) mo ∧ u.2.1 = (pSave S h T n mo, pSaveH h) ∧ u.2.2.1 = Xt) ∧ (¬ xAdd n sl off = 0 → u.1 = snp T n mo ∧ u.2.1 = (S, h) ∧ u.2.2.1 = Xt)) := by
  refine mi_of (by decide +kernel) (Nat.le_of_ble_eq_true rfl) ?_
  intro p e s m args below meth c A Q F hr hlk hQ
  refine v_st (w' := wM ad G (snp T n mo) (S, h) Xt Tw Qs Ks Lo Wi) (pc' := 0) (st' := []) rfl rfl rfl [0, 1, 2] (lv' := [(0, .ref (ad 0)), (1, .int sl), (2, .int off)]) rfl ?_
  refine v_aload_n F dX8_add_0 0 rfl rfl ?_
  refine v_iconst (v := nI 0) F dX8_add_1 (by decide) ?_
  refine v_put F inlX8 (ci := 8) rfl tyX8 tyX8_ok nmX8 5 (by decide) rfl rfl wF_RX8_35 dX8_add_2 (ty := .int) (by decide +kernel) rfl rfl 0 rfl (Nat.le_of_ble_eq_true rfl) (wM ad G (snp T n mo) (S, h) Xt (0) Qs Ks Lo Wi) rfl ?_
  refine v_iload_n F dX8_add_5 1 rfl rfl ?_
  refine v_cSIE F cs_RX8_64 dX8_add_6 (m_X8_isSlope lau G sl ) (by decide) rfl rfl (Nat.le_of_ble_eq_true rfl) ⟨Nat.zero_le _, Nat.zero_le _⟩ (fun r1 u2 w3 => ?_)
  subst w3
  refine v_if_eq F 19 dX8_add_9 (by decide) (fun c4 => ?_) (fun c4 => ?_)
  · replace c4 := bI_f c4
    refine v_aload_n F dX8_add_19 0 rfl rfl ?_
    refine v_iconst (v := nI 1) F dX8_add_20 (by decide) ?_
    refine v_cVIF F cs_RX8_46 dX8_add_21 0 (ci := 8) rfl rfl (m_X8_fails lau G ad (snp T n mo) (S, h) Xt (0) Qs Ks Lo Wi 1 ) (by decide) rfl rfl (Nat.le_of_ble_eq_true rfl) ⟨Nat.zero_le _, Nat.zero_le _⟩ (fun r5 u6 w7 => ?_)
    subst w7
    refine v_w (w' := wM ad G (snp T n mo) (S, h) Xt (xAdd n sl off) Qs Ks Lo Wi) (congrArg (fun z_ => wM ad G (snp T n mo) (S, h) Xt z_ Qs Ks Lo Wi) (show 1 = (xAdd n sl off) by simp [xAdd, *])) ?_
    exact v_iret F hr hlk hQ dX8_add_24 (((snp T n mo), (S, h), Xt, Qs, Ks, Lo, Wi)) rfl (by first | exact ⟨fun q => absurd q (by simp [xAdd, *]; done), fun _ => ⟨rfl, rfl, rfl⟩⟩ | exact ⟨fun _ => ⟨by rfl, by rfl, by rfl, by rfl⟩, fun q => absurd (by simp [xAdd, *]) q⟩)
  · replace c4 := bI_t c4
    refine v_iload_n F dX8_add_12 2 rfl rfl ?_
    refine v_cSIE F cs_RX8_68 dX8_add_13 (m_X8_isOffset lau G off ) (by decide) rfl rfl (Nat.le_of_ble_eq_true rfl) ⟨Nat.zero_le _, Nat.zero_le _⟩ (fun r8 u9 w10 => ?_)
    subst w10
    refine v_if_ne F 25 dX8_add_16 (by decide) (fun c11 => ?_) (fun c11 => ?_)
    · replace c11 := bI_t c11
      refine v_aload_n F dX8_add_25 0 rfl rfl ?_
      refine v_get (v := .ref (ad 1)) F inlX8 (ci := 8) rfl 0 (by decide) rfl wF_RX8_7 dX8_add_26 0 rfl rfl ?_
      refine v_iconst (v := nI 1) F dX8_add_29 (by decide) ?_
      refine v_ialdN F dX8_add_30 1 rfl 1 rfl (by omega) (by decide) ((snp T n mo) 1) rfl ?_
      refine v_topi (nI n) rfl ?_
      refine v_bipush (v := nI 20) F dX8_add_31 (by decide) ?_
      refine v_icmp_ne F 42 dX8_add_33 (by decide) (fun c12 => ?_) (fun c12 => ?_)
      · replace c12 := nEn (a := n) (b := 20) (by omega) (by decide) c12
        have h20b : ¬ 20 ≤ n := by omega
        refine v_aload_n F dX8_add_42 0 rfl rfl ?_
        refine v_cVVF F cs_RX8_71 dX8_add_43 0 (ci := 8) rfl rfl (m_X8_saves lau G ad T n mo S h Xt (0) Qs Ks Lo Wi (by omega)) (by decide) rfl rfl (Nat.le_of_ble_eq_true rfl) ⟨Nat.zero_le _, Nat.zero_le _⟩ (fun u14 w15 => ?_)
        refine v_aload_n F dX8_add_46 0 rfl rfl ?_
        refine v_iload_n F dX8_add_47 1 rfl rfl ?_
        refine v_iload_n F dX8_add_48 2 rfl rfl ?_
        refine v_iconst (v := nI 0) F dX8_add_49 (by decide) ?_
        refine v_bipush (v := nI 99) F dX8_add_50 (by decide) ?_
        refine v_cVVF F cs_RX8_74 dX8_add_52 0 (ci := 8) rfl rfl (m_X8_comes lau G ad T n mo (pSave S h T n mo, pSaveH h) Xt (0) Qs Ks Lo Wi sl off (nI 0) (nI 99) (by omega)) (by decide) rfl rfl (Nat.le_of_ble_eq_true rfl) ⟨Nat.zero_le _, Nat.zero_le _⟩ (fun u17 w18 => ?_)
        refine v_aload_n F dX8_add_55 0 rfl rfl ?_
        refine v_get (v := .ref (ad 1)) F inlX8 (ci := 8) rfl 0 (by decide) rfl wF_RX8_7 dX8_add_56 0 rfl rfl ?_
        refine v_iconst (v := nI 1) F dX8_add_59 (by decide) ?_
        refine v_ialdN F dX8_add_60 1 rfl 1 rfl (by omega) (by decide) ((snp (pAdd T n sl off (nI 0) (nI 99)) (n + 1) mo) 1) rfl ?_
        refine v_topi (nI (n + 1)) rfl ?_
        refine v_iconst (v := nI 1) F dX8_add_61 (by decide) ?_
        refine v_isub F dX8_add_62 ?_
        refine v_topi (nI n) ((pk_sub (by omega)).trans (congrArg nI (Nat.add_sub_cancel n 1))) ?_
        refine v_w (w' := wM ad G (snp (pAdd T n sl off (nI 0) (nI 99)) (n + 1) mo) (pSave S h T n mo, pSaveH h) Xt (xAdd n sl off) Qs Ks Lo Wi) (congrArg (fun z_ => wM ad G (snp (pAdd T n sl off (nI 0) (nI 99)) (n + 1) mo) (pSave S h T n mo, pSaveH h) Xt z_ Qs Ks Lo Wi) (show (0) = (xAdd n sl off) by simp [xAdd, *])) ?_
        exact v_iret F hr hlk hQ dX8_add_63 (((snp (pAdd T n sl off (nI 0) (nI 99)) (n + 1) mo), (pSave S h T n mo, pSaveH h), Xt, Qs, Ks, Lo, Wi)) rfl (by first | exact ⟨fun q => absurd q (by simp [xAdd, *]; done), fun _ => ⟨rfl, rfl, rfl⟩⟩ | exact ⟨fun _ => ⟨by rfl, by rfl, by rfl, by rfl⟩, fun q => absurd (by simp [xAdd, *]) q⟩)
      · replace c12 := nE (a := n) (b := 20) (by omega) (by decide) c12
        have h20b : 20 ≤ n := by omega
        refine v_aload_n F dX8_add_36 0 rfl rfl ?_
        refine v_iconst (v := nI 2) F dX8_add_37 (by decide) ?_
        refine v_cVIF F cs_RX8_46 dX8_add_38 0 (ci := 8) rfl rfl (m_X8_fails lau G ad (snp T n mo) (S, h) Xt (0) Qs Ks Lo Wi 2 ) (by decide) rfl rfl (Nat.le_of_ble_eq_true rfl) ⟨Nat.zero_le _, Nat.zero_le _⟩ (fun r19 u20 w21 => ?_)
        subst w21
        refine v_w (w' := wM ad G (snp T n mo) (S, h) Xt (xAdd n sl off) Qs Ks Lo Wi) (congrArg (fun z_ => wM ad G (snp T n mo) (S, h) Xt z_ Qs Ks Lo Wi) (show 2 = (xAdd n sl off) by simp [xAdd, *])) ?_
        exact v_iret F hr hlk hQ dX8_add_41 (((snp T n mo), (S, h), Xt, Qs, Ks, Lo, Wi)) rfl (by first | exact ⟨fun q => absurd q (by simp [xAdd, *]; done), fun _ => ⟨rfl, rfl, rfl⟩⟩ | exact ⟨fun _ => ⟨by rfl, by rfl, by rfl, by rfl⟩, fun q => absurd (by simp [xAdd, *]) q⟩)
    · replace c11 := bI_f c11
      refine v_aload_n F dX8_add_19 0 rfl rfl ?_
      refine v_iconst (v := nI 1) F dX8_add_20 (by decide) ?_
      refine v_cVIF F cs_RX8_46 dX8_add_21 0 (ci := 8) rfl rfl (m_X8_fails lau G ad (snp T n mo) (S, h) Xt (0) Qs Ks Lo Wi 1 ) (by decide) rfl rfl (Nat.le_of_ble_eq_true rfl) ⟨Nat.zero_le _, Nat.zero_le _⟩ (fun r22 u23 w24 => ?_)
      subst w24
      refine v_w (w' := wM ad G (snp T n mo) (S, h) Xt (xAdd n sl off) Qs Ks Lo Wi) (congrArg (fun z_ => wM ad G (snp T n mo) (S, h) Xt z_ Qs Ks Lo Wi) (show 1 = (xAdd n sl off) by simp [xAdd, *])) ?_
      exact v_iret F hr hlk hQ dX8_add_24 (((snp T n mo), (S, h), Xt, Qs, Ks, Lo, Wi)) rfl (by first | exact ⟨fun q => absurd q (by simp [xAdd, *]; done), fun _ => ⟨rfl, rfl, rfl⟩⟩ | exact ⟨fun _ => ⟨by rfl, by rfl, by rfl, by rfl⟩, fun q => absurd (by simp [xAdd, *]) q⟩)
theorem cs_RX8_78 : CSV RX8 78 RX8 yX8_isLine cX8_isLine 2 (some .boolean) 1 := ⟨wC_yX8_isLine, wM_RX8_78, wIm_yX8_isLine, wSe_yX8_isLine, wI_RX8, by decide +kernel, by decide⟩
theorem cs_RX8_81 : CSS RX8 81 yX8_isPlace cX8_isPlace 1 (some .boolean) 1 := ⟨wC_yX8_isPlace, wM_RX8_81, wSt_yX8_isPlace, wI_RX8, by decide +kernel, by decide⟩
theorem cs_RX8_84 : CSV RX8 84 RX8 yX8_changes cX8_changes 6 (some .int) 4 := ⟨wC_yX8_changes, wM_RX8_84, wIm_yX8_changes, wSe_yX8_changes, wI_RX8, by decide +kernel, by decide⟩
set_option maxHeartbeats 4000000 in
set_option maxRecDepth 100000 in
theorem m_X8_span (lau : Launch) (G : GT) (ad : Nat → Nat) (T : Nat → Int32) (n mo : Nat) (S : Nat → Int32) (h : Nat) (Xt : XT) (Tw : Nat) (Qs : QT) (Ks : KS) (Lo Wi : Nat → Int32) (line a b : Int32) (hn : n ≤ 20) (hh : h ≤ 6) : MI lau G 6 yX8_span cX8_span 4 (some .int) [.ref (ad 0), .int line, .int a, .int b] (wM ad G (snp T n mo) (S, h) Xt Tw Qs Ks Lo Wi) (fun u : MS => wM ad G u.1 u.2.1 u.2.2.1 (xStr n line a b (nI 64)) u.2.2.2.1 u.2.2.2.2.1 u.2.2.2.2.2.1 u.2.2.2.2.2.2) (fun r u => (xStr n line a b (nI 64) = 0 → r = T (line.toNatClampNeg * 6 + 3) - T (line.toNatClampNeg * 6 + 2) + nI 1 ∧ u.1 = snp (upd (upd T (line.toNatClampNeg * 6 + 2) a) (line.toNatClampNeg * 6 + 3) b) n mo ∧ u.2.1 = (pSave S h T n mo, pSaveH h) ∧ u.2.2.1 = Xt) ∧ (¬ xStr n line a b (nI 64) = 0 → u.1 = snp T n mo ∧ u.2.1 = (S, h) ∧ u.2.2.1 = Xt)) := by
  refine mi_of (by decide +kernel) (Nat.le_of_ble_eq_true rfl) ?_
  intro p e s m args below meth c A Q F hr hlk hQ
  refine v_st (w' := wM ad G (snp T n mo) (S, h) Xt Tw Qs Ks Lo Wi) (pc' := 0) (st' := []) rfl rfl rfl [0, 1, 2, 3] (lv' := [(0, .ref (ad 0)), (1, .int line), (2, .int a), (3, .int b)]) rfl ?_
  refine v_aload_n F dX8_span_0 0 rfl rfl ?_
  refine v_iconst (v := nI 0) F dX8_span_1 (by decide) ?_
  refine v_put F inlX8 (ci := 8) rfl tyX8 tyX8_ok nmX8 5 (by decide) rfl rfl wF_RX8_35 dX8_span_2 (ty := .int) (by decide +kernel) rfl rfl 0 rfl (Nat.le_of_ble_eq_true rfl) (wM ad G (snp T n mo) (S, h) Xt (0) Qs Ks Lo Wi) rfl ?_
  refine v_aload_n F dX8_span_5 0 rfl rfl ?_
  refine v_iload_n F dX8_span_6 1 rfl rfl ?_
  refine v_cVIF F cs_RX8_78 dX8_span_7 0 (ci := 8) rfl rfl (m_X8_isLine lau G ad T n mo (S, h) Xt (0) Qs Ks Lo Wi line (by omega)) (by decide) rfl rfl (Nat.le_of_ble_eq_true rfl) ⟨Nat.zero_le _, Nat.zero_le _⟩ (fun r1 u2 w3 => ?_)
  subst w3
  refine v_if_ne F 19 dX8_span_10 (by decide) (fun c4 => ?_) (fun c4 => ?_)
  · replace c4 := bI_t c4
    obtain ⟨li, hb0, rfl⟩ := hasB_of (by omega) c4
    have hc_li : (nI li).toNatClampNeg = li := nI_clamp (by omega)
    refine v_iload_n F dX8_span_19 2 rfl rfl ?_
    refine v_cSIE F cs_RX8_81 dX8_span_20 (m_X8_isPlace lau G a ) (by decide) rfl rfl (Nat.le_of_ble_eq_true rfl) ⟨Nat.zero_le _, Nat.zero_le _⟩ (fun r5 u6 w7 => ?_)
    subst w7
    refine v_if_eq F 38 dX8_span_23 (by decide) (fun c8 => ?_) (fun c8 => ?_)
    · replace c8 := bI_f c8
      refine v_aload_n F dX8_span_38 0 rfl rfl ?_
      refine v_iconst (v := nI 2) F dX8_span_39 (by decide) ?_
      refine v_cVIF F cs_RX8_46 dX8_span_40 0 (ci := 8) rfl rfl (m_X8_fails lau G ad (snp T n mo) (S, h) Xt (0) Qs Ks Lo Wi 2 ) (by decide) rfl rfl (Nat.le_of_ble_eq_true rfl) ⟨Nat.zero_le _, Nat.zero_le _⟩ (fun r9 u10 w11 => ?_)
      subst w11
      refine v_w (w' := wM ad G (snp T n mo) (S, h) Xt (xStr n (nI li) a b (nI 64)) Qs Ks Lo Wi) (congrArg (fun z_ => wM ad G (snp T n mo) (S, h) Xt z_ Qs Ks Lo Wi) (show 2 = (xStr n (nI li) a b (nI 64)) by simp [xStr, stM64, stM100, *])) ?_
      exact v_iret F hr hlk hQ dX8_span_43 (((snp T n mo), (S, h), Xt, Qs, Ks, Lo, Wi)) rfl (by first | exact ⟨fun q => absurd q (by simp [xStr, stM64, stM100, *]; done), fun _ => ⟨rfl, rfl, rfl⟩⟩ | exact ⟨fun _ => ⟨by rw [hc_li], by rw [hc_li], by rfl, by rfl⟩, fun q => absurd (by simp [xStr, stM64, stM100, *]) q⟩)
    · replace c8 := bI_t c8
      refine v_iload_n F dX8_span_26 3 rfl rfl ?_
      refine v_cSIE F cs_RX8_81 dX8_span_27 (m_X8_isPlace lau G b ) (by decide) rfl rfl (Nat.le_of_ble_eq_true rfl) ⟨Nat.zero_le _, Nat.zero_le _⟩ (fun r12 u13 w14 => ?_)
      subst w14
      refine v_if_eq F 38 dX8_span_30 (by decide) (fun c15 => ?_) (fun c15 => ?_)
      · replace c15 := bI_f c15
        refine v_aload_n F dX8_span_38 0 rfl rfl ?_
        refine v_iconst (v := nI 2) F dX8_span_39 (by decide) ?_
        refine v_cVIF F cs_RX8_46 dX8_span_40 0 (ci := 8) rfl rfl (m_X8_fails lau G ad (snp T n mo) (S, h) Xt (0) Qs Ks Lo Wi 2 ) (by decide) rfl rfl (Nat.le_of_ble_eq_true rfl) ⟨Nat.zero_le _, Nat.zero_le _⟩ (fun r16 u17 w18 => ?_)
        subst w18
        refine v_w (w' := wM ad G (snp T n mo) (S, h) Xt (xStr n (nI li) a b (nI 64)) Qs Ks Lo Wi) (congrArg (fun z_ => wM ad G (snp T n mo) (S, h) Xt z_ Qs Ks Lo Wi) (show 2 = (xStr n (nI li) a b (nI 64)) by simp [xStr, stM64, stM100, *])) ?_
        exact v_iret F hr hlk hQ dX8_span_43 (((snp T n mo), (S, h), Xt, Qs, Ks, Lo, Wi)) rfl (by first | exact ⟨fun q => absurd q (by simp [xStr, stM64, stM100, *]; done), fun _ => ⟨rfl, rfl, rfl⟩⟩ | exact ⟨fun _ => ⟨by rw [hc_li], by rw [hc_li], by rfl, by rfl⟩, fun q => absurd (by simp [xStr, stM64, stM100, *]) q⟩)
      · replace c15 := bI_t c15
        refine v_iload_n F dX8_span_33 3 rfl rfl ?_
        refine v_iload_n F dX8_span_34 2 rfl rfl ?_
        refine v_icmp_ge F 44 dX8_span_35 (by decide) (fun c19 => ?_) (fun c19 => ?_)
        · refine v_aload_n F dX8_span_44 0 rfl rfl ?_
          refine v_cVVF F cs_RX8_71 dX8_span_45 0 (ci := 8) rfl rfl (m_X8_saves lau G ad T n mo S h Xt (0) Qs Ks Lo Wi (by omega)) (by decide) rfl rfl (Nat.le_of_ble_eq_true rfl) ⟨Nat.zero_le _, Nat.zero_le _⟩ (fun u21 w22 => ?_)
          refine v_aload_n F dX8_span_48 0 rfl rfl ?_
          refine v_iload_n F dX8_span_49 1 rfl rfl ?_
          refine v_iconst (v := nI 2) F dX8_span_50 (by decide) ?_
          refine v_iload_n F dX8_span_51 2 rfl rfl ?_
          refine v_iload_n F dX8_span_52 3 rfl rfl ?_
          refine v_cVIF F cs_RX8_84 dX8_span_53 0 (ci := 8) rfl rfl (m_X8_changes lau G ad T n mo (pSave S h T n mo, pSaveH h) Xt (0) Qs Ks Lo Wi li 2 a b (by omega) (by omega)) (by decide) rfl rfl (Nat.le_of_ble_eq_true rfl) ⟨Nat.zero_le _, Nat.zero_le _⟩ (fun r23 u24 w25 => ?_)
          subst w25
          refine v_w (w' := wM ad G (snp (upd (upd T ((li * 6) + 2) a) ((li * 6) + (2 + 1)) b) n mo) (pSave S h T n mo, pSaveH h) Xt (xStr n (nI li) a b (nI 64)) Qs Ks Lo Wi) (congrArg (fun z_ => wM ad G (snp (upd (upd T ((li * 6) + 2) a) ((li * 6) + (2 + 1)) b) n mo) (pSave S h T n mo, pSaveH h) Xt z_ Qs Ks Lo Wi) (show (0) = (xStr n (nI li) a b (nI 64)) by simp [xStr, stM64, stM100, *])) ?_
          exact v_iret F hr hlk hQ dX8_span_56 (((snp (upd (upd T ((li * 6) + 2) a) ((li * 6) + (2 + 1)) b) n mo), (pSave S h T n mo, pSaveH h), Xt, Qs, Ks, Lo, Wi)) rfl (by first | exact ⟨fun q => absurd q (by simp [xStr, stM64, stM100, *]; done), fun _ => ⟨rfl, rfl, rfl⟩⟩ | exact ⟨fun _ => ⟨by rw [hc_li], by rw [hc_li], by rfl, by rfl⟩, fun q => absurd (by simp [xStr, stM64, stM100, *]) q⟩)
        · refine v_aload_n F dX8_span_38 0 rfl rfl ?_
          refine v_iconst (v := nI 2) F dX8_span_39 (by decide) ?_
          refine v_cVIF F cs_RX8_46 dX8_span_40 0 (ci := 8) rfl rfl (m_X8_fails lau G ad (snp T n mo) (S, h) Xt (0) Qs Ks Lo Wi 2 ) (by decide) rfl rfl (Nat.le_of_ble_eq_true rfl) ⟨Nat.zero_le _, Nat.zero_le _⟩ (fun r26 u27 w28 => ?_)
          subst w28
          refine v_w (w' := wM ad G (snp T n mo) (S, h) Xt (xStr n (nI li) a b (nI 64)) Qs Ks Lo Wi) (congrArg (fun z_ => wM ad G (snp T n mo) (S, h) Xt z_ Qs Ks Lo Wi) (show 2 = (xStr n (nI li) a b (nI 64)) by simp [xStr, stM64, stM100, *])) ?_
          exact v_iret F hr hlk hQ dX8_span_43 (((snp T n mo), (S, h), Xt, Qs, Ks, Lo, Wi)) rfl (by first | exact ⟨fun q => absurd q (by simp [xStr, stM64, stM100, *]; done), fun _ => ⟨rfl, rfl, rfl⟩⟩ | exact ⟨fun _ => ⟨by rw [hc_li], by rw [hc_li], by rfl, by rfl⟩, fun q => absurd (by simp [xStr, stM64, stM100, *]) q⟩)
  · replace c4 := bI_f c4
    refine v_aload_n F dX8_span_13 0 rfl rfl ?_
    refine v_iconst (v := nI 1) F dX8_span_14 (by decide) ?_
    refine v_cVIF F cs_RX8_46 dX8_span_15 0 (ci := 8) rfl rfl (m_X8_fails lau G ad (snp T n mo) (S, h) Xt (0) Qs Ks Lo Wi 1 ) (by decide) rfl rfl (Nat.le_of_ble_eq_true rfl) ⟨Nat.zero_le _, Nat.zero_le _⟩ (fun r29 u30 w31 => ?_)
    subst w31
    refine v_w (w' := wM ad G (snp T n mo) (S, h) Xt (xStr n line a b (nI 64)) Qs Ks Lo Wi) (congrArg (fun z_ => wM ad G (snp T n mo) (S, h) Xt z_ Qs Ks Lo Wi) (show 1 = (xStr n line a b (nI 64)) by simp [xStr, stM64, stM100, *])) ?_
    exact v_iret F hr hlk hQ dX8_span_18 (((snp T n mo), (S, h), Xt, Qs, Ks, Lo, Wi)) rfl (by first | exact ⟨fun q => absurd q (by simp [xStr, stM64, stM100, *]; done), fun _ => ⟨rfl, rfl, rfl⟩⟩ | exact ⟨fun _ => ⟨by rw [hc_li], by rw [hc_li], by rfl, by rfl⟩, fun q => absurd (by simp [xStr, stM64, stM100, *]) q⟩)
theorem cs_RX8_88 : CSS RX8 88 yX8_isMoment cX8_isMoment 1 (some .boolean) 1 := ⟨wC_yX8_isMoment, wM_RX8_88, wSt_yX8_isMoment, wI_RX8, by decide +kernel, by decide⟩
set_option maxHeartbeats 4000000 in
set_option maxRecDepth 100000 in
theorem m_X8_live (lau : Launch) (G : GT) (ad : Nat → Nat) (T : Nat → Int32) (n mo : Nat) (S : Nat → Int32) (h : Nat) (Xt : XT) (Tw : Nat) (Qs : QT) (Ks : KS) (Lo Wi : Nat → Int32) (line a b : Int32) (hn : n ≤ 20) (hh : h ≤ 6) : MI lau G 6 yX8_live cX8_live 4 (some .int) [.ref (ad 0), .int line, .int a, .int b] (wM ad G (snp T n mo) (S, h) Xt Tw Qs Ks Lo Wi) (fun u : MS => wM ad G u.1 u.2.1 u.2.2.1 (xStr n line a b (nI 100)) u.2.2.2.1 u.2.2.2.2.1 u.2.2.2.2.2.1 u.2.2.2.2.2.2) (fun r u => (xStr n line a b (nI 100) = 0 → r = T (line.toNatClampNeg * 6 + 5) - T (line.toNatClampNeg * 6 + 4) + nI 1 ∧ u.1 = snp (upd (upd T (line.toNatClampNeg * 6 + 4) a) (line.toNatClampNeg * 6 + 5) b) n mo ∧ u.2.1 = (pSave S h T n mo, pSaveH h) ∧ u.2.2.1 = Xt) ∧ (¬ xStr n line a b (nI 100) = 0 → u.1 = snp T n mo ∧ u.2.1 = (S, h) ∧ u.2.2.1 = Xt)) := by
  refine mi_of (by decide +kernel) (Nat.le_of_ble_eq_true rfl) ?_
  intro p e s m args below meth c A Q F hr hlk hQ
  refine v_st (w' := wM ad G (snp T n mo) (S, h) Xt Tw Qs Ks Lo Wi) (pc' := 0) (st' := []) rfl rfl rfl [0, 1, 2, 3] (lv' := [(0, .ref (ad 0)), (1, .int line), (2, .int a), (3, .int b)]) rfl ?_
  refine v_aload_n F dX8_live_0 0 rfl rfl ?_
  refine v_iconst (v := nI 0) F dX8_live_1 (by decide) ?_
  refine v_put F inlX8 (ci := 8) rfl tyX8 tyX8_ok nmX8 5 (by decide) rfl rfl wF_RX8_35 dX8_live_2 (ty := .int) (by decide +kernel) rfl rfl 0 rfl (Nat.le_of_ble_eq_true rfl) (wM ad G (snp T n mo) (S, h) Xt (0) Qs Ks Lo Wi) rfl ?_
  refine v_aload_n F dX8_live_5 0 rfl rfl ?_
  refine v_iload_n F dX8_live_6 1 rfl rfl ?_
  refine v_cVIF F cs_RX8_78 dX8_live_7 0 (ci := 8) rfl rfl (m_X8_isLine lau G ad T n mo (S, h) Xt (0) Qs Ks Lo Wi line (by omega)) (by decide) rfl rfl (Nat.le_of_ble_eq_true rfl) ⟨Nat.zero_le _, Nat.zero_le _⟩ (fun r1 u2 w3 => ?_)
  subst w3
  refine v_if_ne F 19 dX8_live_10 (by decide) (fun c4 => ?_) (fun c4 => ?_)
  · replace c4 := bI_t c4
    obtain ⟨li, hb0, rfl⟩ := hasB_of (by omega) c4
    have hc_li : (nI li).toNatClampNeg = li := nI_clamp (by omega)
    refine v_iload_n F dX8_live_19 2 rfl rfl ?_
    refine v_cSIE F cs_RX8_88 dX8_live_20 (m_X8_isMoment lau G a ) (by decide) rfl rfl (Nat.le_of_ble_eq_true rfl) ⟨Nat.zero_le _, Nat.zero_le _⟩ (fun r5 u6 w7 => ?_)
    subst w7
    refine v_if_eq F 38 dX8_live_23 (by decide) (fun c8 => ?_) (fun c8 => ?_)
    · replace c8 := bI_f c8
      refine v_aload_n F dX8_live_38 0 rfl rfl ?_
      refine v_iconst (v := nI 2) F dX8_live_39 (by decide) ?_
      refine v_cVIF F cs_RX8_46 dX8_live_40 0 (ci := 8) rfl rfl (m_X8_fails lau G ad (snp T n mo) (S, h) Xt (0) Qs Ks Lo Wi 2 ) (by decide) rfl rfl (Nat.le_of_ble_eq_true rfl) ⟨Nat.zero_le _, Nat.zero_le _⟩ (fun r9 u10 w11 => ?_)
      subst w11
      refine v_w (w' := wM ad G (snp T n mo) (S, h) Xt (xStr n (nI li) a b (nI 100)) Qs Ks Lo Wi) (congrArg (fun z_ => wM ad G (snp T n mo) (S, h) Xt z_ Qs Ks Lo Wi) (show 2 = (xStr n (nI li) a b (nI 100)) by simp [xStr, stM64, stM100, *])) ?_
      exact v_iret F hr hlk hQ dX8_live_43 (((snp T n mo), (S, h), Xt, Qs, Ks, Lo, Wi)) rfl (by first | exact ⟨fun q => absurd q (by simp [xStr, stM64, stM100, *]; done), fun _ => ⟨rfl, rfl, rfl⟩⟩ | exact ⟨fun _ => ⟨by rw [hc_li], by rw [hc_li], by rfl, by rfl⟩, fun q => absurd (by simp [xStr, stM64, stM100, *]) q⟩)
    · replace c8 := bI_t c8
      refine v_iload_n F dX8_live_26 3 rfl rfl ?_
      refine v_cSIE F cs_RX8_88 dX8_live_27 (m_X8_isMoment lau G b ) (by decide) rfl rfl (Nat.le_of_ble_eq_true rfl) ⟨Nat.zero_le _, Nat.zero_le _⟩ (fun r12 u13 w14 => ?_)
      subst w14
      refine v_if_eq F 38 dX8_live_30 (by decide) (fun c15 => ?_) (fun c15 => ?_)
      · replace c15 := bI_f c15
        refine v_aload_n F dX8_live_38 0 rfl rfl ?_
        refine v_iconst (v := nI 2) F dX8_live_39 (by decide) ?_
        refine v_cVIF F cs_RX8_46 dX8_live_40 0 (ci := 8) rfl rfl (m_X8_fails lau G ad (snp T n mo) (S, h) Xt (0) Qs Ks Lo Wi 2 ) (by decide) rfl rfl (Nat.le_of_ble_eq_true rfl) ⟨Nat.zero_le _, Nat.zero_le _⟩ (fun r16 u17 w18 => ?_)
        subst w18
        refine v_w (w' := wM ad G (snp T n mo) (S, h) Xt (xStr n (nI li) a b (nI 100)) Qs Ks Lo Wi) (congrArg (fun z_ => wM ad G (snp T n mo) (S, h) Xt z_ Qs Ks Lo Wi) (show 2 = (xStr n (nI li) a b (nI 100)) by simp [xStr, stM64, stM100, *])) ?_
        exact v_iret F hr hlk hQ dX8_live_43 (((snp T n mo), (S, h), Xt, Qs, Ks, Lo, Wi)) rfl (by first | exact ⟨fun q => absurd q (by simp [xStr, stM64, stM100, *]; done), fun _ => ⟨rfl, rfl, rfl⟩⟩ | exact ⟨fun _ => ⟨by rw [hc_li], by rw [hc_li], by rfl, by rfl⟩, fun q => absurd (by simp [xStr, stM64, stM100, *]) q⟩)
      · replace c15 := bI_t c15
        refine v_iload_n F dX8_live_33 3 rfl rfl ?_
        refine v_iload_n F dX8_live_34 2 rfl rfl ?_
        refine v_icmp_ge F 44 dX8_live_35 (by decide) (fun c19 => ?_) (fun c19 => ?_)
        · refine v_aload_n F dX8_live_44 0 rfl rfl ?_
          refine v_cVVF F cs_RX8_71 dX8_live_45 0 (ci := 8) rfl rfl (m_X8_saves lau G ad T n mo S h Xt (0) Qs Ks Lo Wi (by omega)) (by decide) rfl rfl (Nat.le_of_ble_eq_true rfl) ⟨Nat.zero_le _, Nat.zero_le _⟩ (fun u21 w22 => ?_)
          refine v_aload_n F dX8_live_48 0 rfl rfl ?_
          refine v_iload_n F dX8_live_49 1 rfl rfl ?_
          refine v_iconst (v := nI 4) F dX8_live_50 (by decide) ?_
          refine v_iload_n F dX8_live_51 2 rfl rfl ?_
          refine v_iload_n F dX8_live_52 3 rfl rfl ?_
          refine v_cVIF F cs_RX8_84 dX8_live_53 0 (ci := 8) rfl rfl (m_X8_changes lau G ad T n mo (pSave S h T n mo, pSaveH h) Xt (0) Qs Ks Lo Wi li 4 a b (by omega) (by omega)) (by decide) rfl rfl (Nat.le_of_ble_eq_true rfl) ⟨Nat.zero_le _, Nat.zero_le _⟩ (fun r23 u24 w25 => ?_)
          subst w25
          refine v_w (w' := wM ad G (snp (upd (upd T ((li * 6) + 4) a) ((li * 6) + (4 + 1)) b) n mo) (pSave S h T n mo, pSaveH h) Xt (xStr n (nI li) a b (nI 100)) Qs Ks Lo Wi) (congrArg (fun z_ => wM ad G (snp (upd (upd T ((li * 6) + 4) a) ((li * 6) + (4 + 1)) b) n mo) (pSave S h T n mo, pSaveH h) Xt z_ Qs Ks Lo Wi) (show (0) = (xStr n (nI li) a b (nI 100)) by simp [xStr, stM64, stM100, *])) ?_
          exact v_iret F hr hlk hQ dX8_live_56 (((snp (upd (upd T ((li * 6) + 4) a) ((li * 6) + (4 + 1)) b) n mo), (pSave S h T n mo, pSaveH h), Xt, Qs, Ks, Lo, Wi)) rfl (by first | exact ⟨fun q => absurd q (by simp [xStr, stM64, stM100, *]; done), fun _ => ⟨rfl, rfl, rfl⟩⟩ | exact ⟨fun _ => ⟨by rw [hc_li], by rw [hc_li], by rfl, by rfl⟩, fun q => absurd (by simp [xStr, stM64, stM100, *]) q⟩)
        · refine v_aload_n F dX8_live_38 0 rfl rfl ?_
          refine v_iconst (v := nI 2) F dX8_live_39 (by decide) ?_
          refine v_cVIF F cs_RX8_46 dX8_live_40 0 (ci := 8) rfl rfl (m_X8_fails lau G ad (snp T n mo) (S, h) Xt (0) Qs Ks Lo Wi 2 ) (by decide) rfl rfl (Nat.le_of_ble_eq_true rfl) ⟨Nat.zero_le _, Nat.zero_le _⟩ (fun r26 u27 w28 => ?_)
          subst w28
          refine v_w (w' := wM ad G (snp T n mo) (S, h) Xt (xStr n (nI li) a b (nI 100)) Qs Ks Lo Wi) (congrArg (fun z_ => wM ad G (snp T n mo) (S, h) Xt z_ Qs Ks Lo Wi) (show 2 = (xStr n (nI li) a b (nI 100)) by simp [xStr, stM64, stM100, *])) ?_
          exact v_iret F hr hlk hQ dX8_live_43 (((snp T n mo), (S, h), Xt, Qs, Ks, Lo, Wi)) rfl (by first | exact ⟨fun q => absurd q (by simp [xStr, stM64, stM100, *]; done), fun _ => ⟨rfl, rfl, rfl⟩⟩ | exact ⟨fun _ => ⟨by rw [hc_li], by rw [hc_li], by rfl, by rfl⟩, fun q => absurd (by simp [xStr, stM64, stM100, *]) q⟩)
  · replace c4 := bI_f c4
    refine v_aload_n F dX8_live_13 0 rfl rfl ?_
    refine v_iconst (v := nI 1) F dX8_live_14 (by decide) ?_
    refine v_cVIF F cs_RX8_46 dX8_live_15 0 (ci := 8) rfl rfl (m_X8_fails lau G ad (snp T n mo) (S, h) Xt (0) Qs Ks Lo Wi 1 ) (by decide) rfl rfl (Nat.le_of_ble_eq_true rfl) ⟨Nat.zero_le _, Nat.zero_le _⟩ (fun r29 u30 w31 => ?_)
    subst w31
    refine v_w (w' := wM ad G (snp T n mo) (S, h) Xt (xStr n line a b (nI 100)) Qs Ks Lo Wi) (congrArg (fun z_ => wM ad G (snp T n mo) (S, h) Xt z_ Qs Ks Lo Wi) (show 1 = (xStr n line a b (nI 100)) by simp [xStr, stM64, stM100, *])) ?_
    exact v_iret F hr hlk hQ dX8_live_18 (((snp T n mo), (S, h), Xt, Qs, Ks, Lo, Wi)) rfl (by first | exact ⟨fun q => absurd q (by simp [xStr, stM64, stM100, *]; done), fun _ => ⟨rfl, rfl, rfl⟩⟩ | exact ⟨fun _ => ⟨by rw [hc_li], by rw [hc_li], by rfl, by rfl⟩, fun q => absurd (by simp [xStr, stM64, stM100, *]) q⟩)
set_option maxHeartbeats 4000000 in
set_option maxRecDepth 100000 in
theorem m_X8_lift (lau : Launch) (G : GT) (ad : Nat → Nat) (T : Nat → Int32) (n mo : Nat) (S : Nat → Int32) (h : Nat) (Xt : XT) (Tw : Nat) (Qs : QT) (Ks : KS) (Lo Wi : Nat → Int32) (line by_ : Int32) (hn : n ≤ 20) (hh : h ≤ 6) : MI lau G 6 yX8_lift cX8_lift 4 (some .int) [.ref (ad 0), .int line, .int by_] (wM ad G (snp T n mo) (S, h) Xt Tw Qs Ks Lo Wi) (fun u : MS => wM ad G u.1 u.2.1 u.2.2.1 (xLift T n line by_) u.2.2.2.1 u.2.2.2.2.1 u.2.2.2.2.2.1 u.2.2.2.2.2.2) (fun r u => (xLift T n line by_ = 0 → r = T (line.toNatClampNeg * 6 + 1) + by_ ∧ u.1 = snp (upd T (line.toNatClampNeg * 6 + 1) (T (line.toNatClampNeg * 6 + 1) + by_)) n mo ∧ u.2.1 = (pSave S h T n mo, pSaveH h) ∧ u.2.2.1 = Xt) ∧ (¬ xLift T n line by_ = 0 → u.1 = snp T n mo ∧ u.2.1 = (S, h) ∧ u.2.2.1 = Xt)) := by
  refine mi_of (by decide +kernel) (Nat.le_of_ble_eq_true rfl) ?_
  intro p e s m args below meth c A Q F hr hlk hQ
  refine v_st (w' := wM ad G (snp T n mo) (S, h) Xt Tw Qs Ks Lo Wi) (pc' := 0) (st' := []) rfl rfl rfl [0, 1, 2] (lv' := [(0, .ref (ad 0)), (1, .int line), (2, .int by_)]) rfl ?_
  refine v_aload_n F dX8_lift_0 0 rfl rfl ?_
  refine v_iconst (v := nI 0) F dX8_lift_1 (by decide) ?_
  refine v_put F inlX8 (ci := 8) rfl tyX8 tyX8_ok nmX8 5 (by decide) rfl rfl wF_RX8_35 dX8_lift_2 (ty := .int) (by decide +kernel) rfl rfl 0 rfl (Nat.le_of_ble_eq_true rfl) (wM ad G (snp T n mo) (S, h) Xt (0) Qs Ks Lo Wi) rfl ?_
  refine v_aload_n F dX8_lift_5 0 rfl rfl ?_
  refine v_iload_n F dX8_lift_6 1 rfl rfl ?_
  refine v_cVIF F cs_RX8_78 dX8_lift_7 0 (ci := 8) rfl rfl (m_X8_isLine lau G ad T n mo (S, h) Xt (0) Qs Ks Lo Wi line (by omega)) (by decide) rfl rfl (Nat.le_of_ble_eq_true rfl) ⟨Nat.zero_le _, Nat.zero_le _⟩ (fun r1 u2 w3 => ?_)
  subst w3
  refine v_if_ne F 19 dX8_lift_10 (by decide) (fun c4 => ?_) (fun c4 => ?_)
  · replace c4 := bI_t c4
    obtain ⟨li, hb0, rfl⟩ := hasB_of (by omega) c4
    have hc_li : (nI li).toNatClampNeg = li := nI_clamp (by omega)
    refine v_iload_n F dX8_lift_19 2 rfl rfl ?_
    refine v_cSIE F cs_RX8_68 dX8_lift_20 (m_X8_isOffset lau G by_ ) (by decide) rfl rfl (Nat.le_of_ble_eq_true rfl) ⟨Nat.zero_le _, Nat.zero_le _⟩ (fun r5 u6 w7 => ?_)
    subst w7
    refine v_if_ne F 32 dX8_lift_23 (by decide) (fun c8 => ?_) (fun c8 => ?_)
    · replace c8 := bI_t c8
      refine v_aload_n F dX8_lift_32 0 rfl rfl ?_
      refine v_iload_n F dX8_lift_33 1 rfl rfl ?_
      refine v_iconst (v := nI 1) F dX8_lift_34 (by decide) ?_
      refine v_cVIF F cs_RX8_50 dX8_lift_35 0 (ci := 8) rfl rfl (m_X8_of lau G ad T n mo (S, h) Xt (0) Qs Ks Lo Wi li 1 (by omega) (by omega)) (by decide) rfl rfl (Nat.le_of_ble_eq_true rfl) ⟨Nat.zero_le _, Nat.zero_le _⟩ (fun r9 u10 w11 => ?_)
      subst w11
      refine v_iload_n F dX8_lift_38 2 rfl rfl ?_
      refine v_iadd F dX8_lift_39 ?_
      refine v_istore_n (lv' := [(3, .int ((T ((li * 6) + 1)) + by_)), (0, .ref (ad 0)), (1, .int (nI li)), (2, .int by_)]) F dX8_lift_40 3 rfl (by decide) rfl ?_
      refine v_iload_n F dX8_lift_41 3 rfl rfl ?_
      refine v_cSIE F cs_RX8_68 dX8_lift_42 (m_X8_isOffset lau G ((T ((li * 6) + 1)) + by_) ) (by decide) rfl rfl (Nat.le_of_ble_eq_true rfl) ⟨Nat.zero_le _, Nat.zero_le _⟩ (fun r12 u13 w14 => ?_)
      subst w14
      refine v_if_ne F 54 dX8_lift_45 (by decide) (fun c15 => ?_) (fun c15 => ?_)
      · replace c15 := bI_t c15
        refine v_aload_n F dX8_lift_54 0 rfl rfl ?_
        refine v_cVVF F cs_RX8_71 dX8_lift_55 0 (ci := 8) rfl rfl (m_X8_saves lau G ad T n mo S h Xt (0) Qs Ks Lo Wi (by omega)) (by decide) rfl rfl (Nat.le_of_ble_eq_true rfl) ⟨Nat.zero_le _, Nat.zero_le _⟩ (fun u17 w18 => ?_)
        refine v_aload_n F dX8_lift_58 0 rfl rfl ?_
        refine v_get (v := .ref (ad 1)) F inlX8 (ci := 8) rfl 0 (by decide) rfl wF_RX8_7 dX8_lift_59 0 rfl rfl ?_
        refine v_iconst (v := nI 2) F dX8_lift_62 (by decide) ?_
        refine v_bipush (v := nI 6) F dX8_lift_63 (by decide) ?_
        refine v_iload_n F dX8_lift_65 1 rfl rfl ?_
        refine v_imul F dX8_lift_66 ?_
        refine v_topi (nI (6 * li)) (pk_mul 6 li) ?_
        refine v_iadd F dX8_lift_67 ?_
        refine v_topi (nI (2 + (6 * li))) (nI_add 2 (6 * li)) ?_
        refine v_iconst (v := nI 1) F dX8_lift_68 (by decide) ?_
        refine v_iadd F dX8_lift_69 ?_
        refine v_topi (nI ((2 + (6 * li)) + 1)) (nI_add (2 + (6 * li)) 1) ?_
        refine v_iload_n F dX8_lift_70 3 rfl rfl ?_
        refine v_iastN F dX8_lift_71 1 rfl ((2 + (6 * li)) + 1) rfl (by omega) (by decide) (wM ad G (upd (snp T n mo) ((2 + (6 * li)) + 1) ((T ((li * 6) + 1)) + by_)) (pSave S h T n mo, pSaveH h) Xt (0) Qs Ks Lo Wi) rfl ?_
        refine v_w (w' := wM ad G (snp (upd T ((li * 6) + 1) ((T ((li * 6) + 1)) + by_)) n mo) (pSave S h T n mo, pSaveH h) Xt (0) Qs Ks Lo Wi) (congrArg (fun z_ => wM ad G (z_) (pSave S h T n mo, pSaveH h) Xt (0) Qs Ks Lo Wi) (upd_snp T n mo li 1 ((T ((li * 6) + 1)) + by_))) ?_
        refine v_iload_n F dX8_lift_72 3 rfl rfl ?_
        refine v_w (w' := wM ad G (snp (upd T ((li * 6) + 1) ((T ((li * 6) + 1)) + by_)) n mo) (pSave S h T n mo, pSaveH h) Xt (xLift T n (nI li) by_) Qs Ks Lo Wi) (congrArg (fun z_ => wM ad G (snp (upd T ((li * 6) + 1) ((T ((li * 6) + 1)) + by_)) n mo) (pSave S h T n mo, pSaveH h) Xt z_ Qs Ks Lo Wi) (show (0) = (xLift T n (nI li) by_) by simp [xLift, *])) ?_
        exact v_iret F hr hlk hQ dX8_lift_73 (((snp (upd T ((li * 6) + 1) ((T ((li * 6) + 1)) + by_)) n mo), (pSave S h T n mo, pSaveH h), Xt, Qs, Ks, Lo, Wi)) rfl (by first | exact ⟨fun q => absurd q (by simp [xLift, *]; done), fun _ => ⟨rfl, rfl, rfl⟩⟩ | exact ⟨fun _ => ⟨by rw [hc_li], by rw [hc_li], by rfl, by rfl⟩, fun q => absurd (by simp [xLift, *]) q⟩)
      · replace c15 := bI_f c15
        refine v_aload_n F dX8_lift_48 0 rfl rfl ?_
        refine v_iconst (v := nI 3) F dX8_lift_49 (by decide) ?_
        refine v_cVIF F cs_RX8_46 dX8_lift_50 0 (ci := 8) rfl rfl (m_X8_fails lau G ad (snp T n mo) (S, h) Xt (0) Qs Ks Lo Wi 3 ) (by decide) rfl rfl (Nat.le_of_ble_eq_true rfl) ⟨Nat.zero_le _, Nat.zero_le _⟩ (fun r19 u20 w21 => ?_)
        subst w21
        refine v_w (w' := wM ad G (snp T n mo) (S, h) Xt (xLift T n (nI li) by_) Qs Ks Lo Wi) (congrArg (fun z_ => wM ad G (snp T n mo) (S, h) Xt z_ Qs Ks Lo Wi) (show 3 = (xLift T n (nI li) by_) by simp [xLift, *])) ?_
        exact v_iret F hr hlk hQ dX8_lift_53 (((snp T n mo), (S, h), Xt, Qs, Ks, Lo, Wi)) rfl (by first | exact ⟨fun q => absurd q (by simp [xLift, *]; done), fun _ => ⟨rfl, rfl, rfl⟩⟩ | exact ⟨fun _ => ⟨by rw [hc_li], by rw [hc_li], by rfl, by rfl⟩, fun q => absurd (by simp [xLift, *]) q⟩)
    · replace c8 := bI_f c8
      refine v_aload_n F dX8_lift_26 0 rfl rfl ?_
      refine v_iconst (v := nI 2) F dX8_lift_27 (by decide) ?_
      refine v_cVIF F cs_RX8_46 dX8_lift_28 0 (ci := 8) rfl rfl (m_X8_fails lau G ad (snp T n mo) (S, h) Xt (0) Qs Ks Lo Wi 2 ) (by decide) rfl rfl (Nat.le_of_ble_eq_true rfl) ⟨Nat.zero_le _, Nat.zero_le _⟩ (fun r22 u23 w24 => ?_)
      subst w24
      refine v_w (w' := wM ad G (snp T n mo) (S, h) Xt (xLift T n (nI li) by_) Qs Ks Lo Wi) (congrArg (fun z_ => wM ad G (snp T n mo) (S, h) Xt z_ Qs Ks Lo Wi) (show 2 = (xLift T n (nI li) by_) by simp [xLift, *])) ?_
      exact v_iret F hr hlk hQ dX8_lift_31 (((snp T n mo), (S, h), Xt, Qs, Ks, Lo, Wi)) rfl (by first | exact ⟨fun q => absurd q (by simp [xLift, *]; done), fun _ => ⟨rfl, rfl, rfl⟩⟩ | exact ⟨fun _ => ⟨by rw [hc_li], by rw [hc_li], by rfl, by rfl⟩, fun q => absurd (by simp [xLift, *]) q⟩)
  · replace c4 := bI_f c4
    refine v_aload_n F dX8_lift_13 0 rfl rfl ?_
    refine v_iconst (v := nI 1) F dX8_lift_14 (by decide) ?_
    refine v_cVIF F cs_RX8_46 dX8_lift_15 0 (ci := 8) rfl rfl (m_X8_fails lau G ad (snp T n mo) (S, h) Xt (0) Qs Ks Lo Wi 1 ) (by decide) rfl rfl (Nat.le_of_ble_eq_true rfl) ⟨Nat.zero_le _, Nat.zero_le _⟩ (fun r25 u26 w27 => ?_)
    subst w27
    refine v_w (w' := wM ad G (snp T n mo) (S, h) Xt (xLift T n line by_) Qs Ks Lo Wi) (congrArg (fun z_ => wM ad G (snp T n mo) (S, h) Xt z_ Qs Ks Lo Wi) (show 1 = (xLift T n line by_) by simp [xLift, *])) ?_
    exact v_iret F hr hlk hQ dX8_lift_18 (((snp T n mo), (S, h), Xt, Qs, Ks, Lo, Wi)) rfl (by first | exact ⟨fun q => absurd q (by simp [xLift, *]; done), fun _ => ⟨rfl, rfl, rfl⟩⟩ | exact ⟨fun _ => ⟨by rw [hc_li], by rw [hc_li], by rfl, by rfl⟩, fun q => absurd (by simp [xLift, *]) q⟩)
theorem cs_RX8_54 : CSV RX8 54 RX8 yX8_at cX8_at 3 (some .int) 2 := ⟨wC_yX8_at, wM_RX8_54, wIm_yX8_at, wSe_yX8_at, wI_RX8, by decide +kernel, by decide⟩
set_option maxHeartbeats 4000000 in
set_option maxRecDepth 100000 in
theorem m_X8_turn (lau : Launch) (G : GT) (ad : Nat → Nat) (T : Nat → Int32) (n mo : Nat) (S : Nat → Int32) (h : Nat) (Xt : XT) (Tw : Nat) (Qs : QT) (Ks : KS) (Lo Wi : Nat → Int32) (line pl sl : Int32) (hn : n ≤ 20) (hh : h ≤ 6) : MI lau G 6 yX8_turn cX8_turn 5 (some .int) [.ref (ad 0), .int line, .int pl, .int sl] (wM ad G (snp T n mo) (S, h) Xt Tw Qs Ks Lo Wi) (fun u : MS => wM ad G u.1 u.2.1 u.2.2.1 (xTurn T n line pl sl) u.2.2.2.1 u.2.2.2.2.1 u.2.2.2.2.2.1 u.2.2.2.2.2.2) (fun r u => (xTurn T n line pl sl = 0 → r = tuV T line pl sl ∧ u.1 = snp (upd (upd T (line.toNatClampNeg * 6 + 0) sl) (line.toNatClampNeg * 6 + 1) (tuV T line pl sl)) n mo ∧ u.2.1 = (pSave S h T n mo, pSaveH h) ∧ u.2.2.1 = Xt) ∧ (¬ xTurn T n line pl sl = 0 → u.1 = snp T n mo ∧ u.2.1 = (S, h) ∧ u.2.2.1 = Xt)) := by
  refine mi_of (by decide +kernel) (Nat.le_of_ble_eq_true rfl) ?_
  intro p e s m args below meth c A Q F hr hlk hQ
  refine v_st (w' := wM ad G (snp T n mo) (S, h) Xt Tw Qs Ks Lo Wi) (pc' := 0) (st' := []) rfl rfl rfl [0, 1, 2, 3] (lv' := [(0, .ref (ad 0)), (1, .int line), (2, .int pl), (3, .int sl)]) rfl ?_
  refine v_aload_n F dX8_turn_0 0 rfl rfl ?_
  refine v_iconst (v := nI 0) F dX8_turn_1 (by decide) ?_
  refine v_put F inlX8 (ci := 8) rfl tyX8 tyX8_ok nmX8 5 (by decide) rfl rfl wF_RX8_35 dX8_turn_2 (ty := .int) (by decide +kernel) rfl rfl 0 rfl (Nat.le_of_ble_eq_true rfl) (wM ad G (snp T n mo) (S, h) Xt (0) Qs Ks Lo Wi) rfl ?_
  refine v_aload_n F dX8_turn_5 0 rfl rfl ?_
  refine v_iload_n F dX8_turn_6 1 rfl rfl ?_
  refine v_cVIF F cs_RX8_78 dX8_turn_7 0 (ci := 8) rfl rfl (m_X8_isLine lau G ad T n mo (S, h) Xt (0) Qs Ks Lo Wi line (by omega)) (by decide) rfl rfl (Nat.le_of_ble_eq_true rfl) ⟨Nat.zero_le _, Nat.zero_le _⟩ (fun r1 u2 w3 => ?_)
  subst w3
  refine v_if_ne F 19 dX8_turn_10 (by decide) (fun c4 => ?_) (fun c4 => ?_)
  · replace c4 := bI_t c4
    obtain ⟨li, hb0, rfl⟩ := hasB_of (by omega) c4
    have hc_li : (nI li).toNatClampNeg = li := nI_clamp (by omega)
    refine v_iload_n F dX8_turn_19 2 rfl rfl ?_
    refine v_cSIE F cs_RX8_81 dX8_turn_20 (m_X8_isPlace lau G pl ) (by decide) rfl rfl (Nat.le_of_ble_eq_true rfl) ⟨Nat.zero_le _, Nat.zero_le _⟩ (fun r5 u6 w7 => ?_)
    subst w7
    refine v_if_eq F 33 dX8_turn_23 (by decide) (fun c8 => ?_) (fun c8 => ?_)
    · replace c8 := bI_f c8
      refine v_aload_n F dX8_turn_33 0 rfl rfl ?_
      refine v_iconst (v := nI 2) F dX8_turn_34 (by decide) ?_
      refine v_cVIF F cs_RX8_46 dX8_turn_35 0 (ci := 8) rfl rfl (m_X8_fails lau G ad (snp T n mo) (S, h) Xt (0) Qs Ks Lo Wi 2 ) (by decide) rfl rfl (Nat.le_of_ble_eq_true rfl) ⟨Nat.zero_le _, Nat.zero_le _⟩ (fun r9 u10 w11 => ?_)
      subst w11
      refine v_w (w' := wM ad G (snp T n mo) (S, h) Xt (xTurn T n (nI li) pl sl) Qs Ks Lo Wi) (congrArg (fun z_ => wM ad G (snp T n mo) (S, h) Xt z_ Qs Ks Lo Wi) (show 2 = (xTurn T n (nI li) pl sl) by simp [xTurn, tuV, *])) ?_
      exact v_iret F hr hlk hQ dX8_turn_38 (((snp T n mo), (S, h), Xt, Qs, Ks, Lo, Wi)) rfl (by first | exact ⟨fun q => absurd q (by simp [xTurn, tuV, *]; done), fun _ => ⟨rfl, rfl, rfl⟩⟩ | exact ⟨fun _ => ⟨by simp only [tuV, hc_li, hc_x], by simp only [tuV, hc_li, hc_x], by rfl, by rfl⟩, fun q => absurd (by simp [xTurn, tuV, *]) q⟩)
    · replace c8 := bI_t c8
      obtain ⟨x, hx, rfl⟩ := plB_of c8
      have hc_x : (nI x).toNatClampNeg = x := nI_clamp (by omega)
      refine v_iload_n F dX8_turn_26 3 rfl rfl ?_
      refine v_cSIE F cs_RX8_64 dX8_turn_27 (m_X8_isSlope lau G sl ) (by decide) rfl rfl (Nat.le_of_ble_eq_true rfl) ⟨Nat.zero_le _, Nat.zero_le _⟩ (fun r12 u13 w14 => ?_)
      subst w14
      refine v_if_ne F 39 dX8_turn_30 (by decide) (fun c15 => ?_) (fun c15 => ?_)
      · replace c15 := bI_t c15
        refine v_aload_n F dX8_turn_39 0 rfl rfl ?_
        refine v_iload_n F dX8_turn_40 1 rfl rfl ?_
        refine v_iload_n F dX8_turn_41 2 rfl rfl ?_
        refine v_cVIF F cs_RX8_54 dX8_turn_42 0 (ci := 8) rfl rfl (m_X8_at lau G ad T n mo (S, h) Xt (0) Qs Ks Lo Wi li x (by omega)) (by decide) rfl rfl (Nat.le_of_ble_eq_true rfl) ⟨Nat.zero_le _, Nat.zero_le _⟩ (fun r16 u17 w18 => ?_)
        subst w18
        refine v_iload_n F dX8_turn_45 3 rfl rfl ?_
        refine v_iload_n F dX8_turn_46 2 rfl rfl ?_
        refine v_imul F dX8_turn_47 ?_
        refine v_isub F dX8_turn_48 ?_
        refine v_istore (lv' := [(4, .int ((pVal T li x) - (sl * nI x))), (0, .ref (ad 0)), (1, .int (nI li)), (2, .int (nI x)), (3, .int sl)]) F dX8_turn_49 (by decide) rfl ?_
        refine v_iload F dX8_turn_51 rfl ?_
        refine v_cSIE F cs_RX8_68 dX8_turn_53 (m_X8_isOffset lau G ((pVal T li x) - (sl * nI x)) ) (by decide) rfl rfl (Nat.le_of_ble_eq_true rfl) ⟨Nat.zero_le _, Nat.zero_le _⟩ (fun r19 u20 w21 => ?_)
        subst w21
        refine v_if_ne F 65 dX8_turn_56 (by decide) (fun c22 => ?_) (fun c22 => ?_)
        · replace c22 := bI_t c22
          refine v_aload_n F dX8_turn_65 0 rfl rfl ?_
          refine v_cVVF F cs_RX8_71 dX8_turn_66 0 (ci := 8) rfl rfl (m_X8_saves lau G ad T n mo S h Xt (0) Qs Ks Lo Wi (by omega)) (by decide) rfl rfl (Nat.le_of_ble_eq_true rfl) ⟨Nat.zero_le _, Nat.zero_le _⟩ (fun u24 w25 => ?_)
          refine v_aload_n F dX8_turn_69 0 rfl rfl ?_
          refine v_get (v := .ref (ad 1)) F inlX8 (ci := 8) rfl 0 (by decide) rfl wF_RX8_7 dX8_turn_70 0 rfl rfl ?_
          refine v_iconst (v := nI 2) F dX8_turn_73 (by decide) ?_
          refine v_bipush (v := nI 6) F dX8_turn_74 (by decide) ?_
          refine v_iload_n F dX8_turn_76 1 rfl rfl ?_
          refine v_imul F dX8_turn_77 ?_
          refine v_topi (nI (6 * li)) (pk_mul 6 li) ?_
          refine v_iadd F dX8_turn_78 ?_
          refine v_topi (nI (2 + (6 * li))) (nI_add 2 (6 * li)) ?_
          refine v_iload_n F dX8_turn_79 3 rfl rfl ?_
          refine v_iastN F dX8_turn_80 1 rfl (2 + (6 * li)) rfl (by omega) (by decide) (wM ad G (upd (snp T n mo) (2 + (6 * li)) sl) (pSave S h T n mo, pSaveH h) Xt (0) Qs Ks Lo Wi) rfl ?_
          refine v_w (w' := wM ad G (snp (upd T ((li * 6) + 0) sl) n mo) (pSave S h T n mo, pSaveH h) Xt (0) Qs Ks Lo Wi) (congrArg (fun z_ => wM ad G (z_) (pSave S h T n mo, pSaveH h) Xt (0) Qs Ks Lo Wi) (upd_snp T n mo li 0 sl)) ?_
          refine v_aload_n F dX8_turn_81 0 rfl rfl ?_
          refine v_get (v := .ref (ad 1)) F inlX8 (ci := 8) rfl 0 (by decide) rfl wF_RX8_7 dX8_turn_82 0 rfl rfl ?_
          refine v_iconst (v := nI 2) F dX8_turn_85 (by decide) ?_
          refine v_bipush (v := nI 6) F dX8_turn_86 (by decide) ?_
          refine v_iload_n F dX8_turn_88 1 rfl rfl ?_
          refine v_imul F dX8_turn_89 ?_
          refine v_topi (nI (6 * li)) (pk_mul 6 li) ?_
          refine v_iadd F dX8_turn_90 ?_
          refine v_topi (nI (2 + (6 * li))) (nI_add 2 (6 * li)) ?_
          refine v_iconst (v := nI 1) F dX8_turn_91 (by decide) ?_
          refine v_iadd F dX8_turn_92 ?_
          refine v_topi (nI ((2 + (6 * li)) + 1)) (nI_add (2 + (6 * li)) 1) ?_
          refine v_iload F dX8_turn_93 rfl ?_
          refine v_iastN F dX8_turn_95 1 rfl ((2 + (6 * li)) + 1) rfl (by omega) (by decide) (wM ad G (upd (snp (upd T ((li * 6) + 0) sl) n mo) ((2 + (6 * li)) + 1) ((pVal T li x) - (sl * nI x))) (pSave S h T n mo, pSaveH h) Xt (0) Qs Ks Lo Wi) rfl ?_
          refine v_w (w' := wM ad G (snp (upd (upd T ((li * 6) + 0) sl) ((li * 6) + 1) ((pVal T li x) - (sl * nI x))) n mo) (pSave S h T n mo, pSaveH h) Xt (0) Qs Ks Lo Wi) (congrArg (fun z_ => wM ad G (z_) (pSave S h T n mo, pSaveH h) Xt (0) Qs Ks Lo Wi) (upd_snp (upd T ((li * 6) + 0) sl) n mo li 1 ((pVal T li x) - (sl * nI x)))) ?_
          refine v_iload F dX8_turn_96 rfl ?_
          refine v_w (w' := wM ad G (snp (upd (upd T ((li * 6) + 0) sl) ((li * 6) + 1) ((pVal T li x) - (sl * nI x))) n mo) (pSave S h T n mo, pSaveH h) Xt (xTurn T n (nI li) (nI x) sl) Qs Ks Lo Wi) (congrArg (fun z_ => wM ad G (snp (upd (upd T ((li * 6) + 0) sl) ((li * 6) + 1) ((pVal T li x) - (sl * nI x))) n mo) (pSave S h T n mo, pSaveH h) Xt z_ Qs Ks Lo Wi) (show (0) = (xTurn T n (nI li) (nI x) sl) by simp [xTurn, tuV, *])) ?_
          exact v_iret F hr hlk hQ dX8_turn_98 (((snp (upd (upd T ((li * 6) + 0) sl) ((li * 6) + 1) ((pVal T li x) - (sl * nI x))) n mo), (pSave S h T n mo, pSaveH h), Xt, Qs, Ks, Lo, Wi)) rfl (by first | exact ⟨fun q => absurd q (by simp [xTurn, tuV, *]; done), fun _ => ⟨rfl, rfl, rfl⟩⟩ | exact ⟨fun _ => ⟨by simp only [tuV, hc_li, hc_x], by simp only [tuV, hc_li, hc_x], by rfl, by rfl⟩, fun q => absurd (by simp [xTurn, tuV, *]) q⟩)
        · replace c22 := bI_f c22
          refine v_aload_n F dX8_turn_59 0 rfl rfl ?_
          refine v_iconst (v := nI 3) F dX8_turn_60 (by decide) ?_
          refine v_cVIF F cs_RX8_46 dX8_turn_61 0 (ci := 8) rfl rfl (m_X8_fails lau G ad (snp T n mo) (S, h) Xt (0) Qs Ks Lo Wi 3 ) (by decide) rfl rfl (Nat.le_of_ble_eq_true rfl) ⟨Nat.zero_le _, Nat.zero_le _⟩ (fun r26 u27 w28 => ?_)
          subst w28
          refine v_w (w' := wM ad G (snp T n mo) (S, h) Xt (xTurn T n (nI li) (nI x) sl) Qs Ks Lo Wi) (congrArg (fun z_ => wM ad G (snp T n mo) (S, h) Xt z_ Qs Ks Lo Wi) (show 3 = (xTurn T n (nI li) (nI x) sl) by simp [xTurn, tuV, *])) ?_
          exact v_iret F hr hlk hQ dX8_turn_64 (((snp T n mo), (S, h), Xt, Qs, Ks, Lo, Wi)) rfl (by first | exact ⟨fun q => absurd q (by simp [xTurn, tuV, *]; done), fun _ => ⟨rfl, rfl, rfl⟩⟩ | exact ⟨fun _ => ⟨by simp only [tuV, hc_li, hc_x], by simp only [tuV, hc_li, hc_x], by rfl, by rfl⟩, fun q => absurd (by simp [xTurn, tuV, *]) q⟩)
      · replace c15 := bI_f c15
        refine v_aload_n F dX8_turn_33 0 rfl rfl ?_
        refine v_iconst (v := nI 2) F dX8_turn_34 (by decide) ?_
        refine v_cVIF F cs_RX8_46 dX8_turn_35 0 (ci := 8) rfl rfl (m_X8_fails lau G ad (snp T n mo) (S, h) Xt (0) Qs Ks Lo Wi 2 ) (by decide) rfl rfl (Nat.le_of_ble_eq_true rfl) ⟨Nat.zero_le _, Nat.zero_le _⟩ (fun r29 u30 w31 => ?_)
        subst w31
        refine v_w (w' := wM ad G (snp T n mo) (S, h) Xt (xTurn T n (nI li) (nI x) sl) Qs Ks Lo Wi) (congrArg (fun z_ => wM ad G (snp T n mo) (S, h) Xt z_ Qs Ks Lo Wi) (show 2 = (xTurn T n (nI li) (nI x) sl) by simp [xTurn, tuV, *])) ?_
        exact v_iret F hr hlk hQ dX8_turn_38 (((snp T n mo), (S, h), Xt, Qs, Ks, Lo, Wi)) rfl (by first | exact ⟨fun q => absurd q (by simp [xTurn, tuV, *]; done), fun _ => ⟨rfl, rfl, rfl⟩⟩ | exact ⟨fun _ => ⟨by simp only [tuV, hc_li, hc_x], by simp only [tuV, hc_li, hc_x], by rfl, by rfl⟩, fun q => absurd (by simp [xTurn, tuV, *]) q⟩)
  · replace c4 := bI_f c4
    refine v_aload_n F dX8_turn_13 0 rfl rfl ?_
    refine v_iconst (v := nI 1) F dX8_turn_14 (by decide) ?_
    refine v_cVIF F cs_RX8_46 dX8_turn_15 0 (ci := 8) rfl rfl (m_X8_fails lau G ad (snp T n mo) (S, h) Xt (0) Qs Ks Lo Wi 1 ) (by decide) rfl rfl (Nat.le_of_ble_eq_true rfl) ⟨Nat.zero_le _, Nat.zero_le _⟩ (fun r32 u33 w34 => ?_)
    subst w34
    refine v_w (w' := wM ad G (snp T n mo) (S, h) Xt (xTurn T n line pl sl) Qs Ks Lo Wi) (congrArg (fun z_ => wM ad G (snp T n mo) (S, h) Xt z_ Qs Ks Lo Wi) (show 1 = (xTurn T n line pl sl) by simp [xTurn, tuV, *])) ?_
    exact v_iret F hr hlk hQ dX8_turn_18 (((snp T n mo), (S, h), Xt, Qs, Ks, Lo, Wi)) rfl (by first | exact ⟨fun q => absurd q (by simp [xTurn, tuV, *]; done), fun _ => ⟨rfl, rfl, rfl⟩⟩ | exact ⟨fun _ => ⟨by simp only [tuV, hc_li, hc_x], by simp only [tuV, hc_li, hc_x], by rfl, by rfl⟩, fun q => absurd (by simp [xTurn, tuV, *]) q⟩)
theorem cs_RX8_91 : CSV RX8 91 RX8 yX8_goes cX8_goes 3 none 1 := ⟨wC_yX8_goes, wM_RX8_91, wIm_yX8_goes, wSe_yX8_goes, wI_RX8, by decide +kernel, by decide⟩
set_option maxHeartbeats 4000000 in
set_option maxRecDepth 100000 in
theorem m_X8_remove (lau : Launch) (G : GT) (ad : Nat → Nat) (T : Nat → Int32) (n mo : Nat) (S : Nat → Int32) (h : Nat) (Xt : XT) (Tw : Nat) (Qs : QT) (Ks : KS) (Lo Wi : Nat → Int32) (line : Int32) (hn : n ≤ 20) (hh : h ≤ 6) : MI lau G 6 yX8_remove cX8_remove 2 (some .int) [.ref (ad 0), .int line] (wM ad G (snp T n mo) (S, h) Xt Tw Qs Ks Lo Wi) (fun u : MS => wM ad G u.1 u.2.1 u.2.2.1 (xRem n line) u.2.2.2.1 u.2.2.2.2.1 u.2.2.2.2.2.1 u.2.2.2.2.2.2) (fun r u => (xRem n line = 0 → r = nI (n - 1) ∧ u.1 = snp (pDrop T n line.toNatClampNeg) (n - 1) mo ∧ u.2.1 = (pSave S h T n mo, pSaveH h) ∧ u.2.2.1 = Xt) ∧ (¬ xRem n line = 0 → u.1 = snp T n mo ∧ u.2.1 = (S, h) ∧ u.2.2.1 = Xt)) := by
  refine mi_of (by decide +kernel) (Nat.le_of_ble_eq_true rfl) ?_
  intro p e s m args below meth c A Q F hr hlk hQ
  refine v_st (w' := wM ad G (snp T n mo) (S, h) Xt Tw Qs Ks Lo Wi) (pc' := 0) (st' := []) rfl rfl rfl [0, 1] (lv' := [(0, .ref (ad 0)), (1, .int line)]) rfl ?_
  refine v_aload_n F dX8_remove_0 0 rfl rfl ?_
  refine v_iconst (v := nI 0) F dX8_remove_1 (by decide) ?_
  refine v_put F inlX8 (ci := 8) rfl tyX8 tyX8_ok nmX8 5 (by decide) rfl rfl wF_RX8_35 dX8_remove_2 (ty := .int) (by decide +kernel) rfl rfl 0 rfl (Nat.le_of_ble_eq_true rfl) (wM ad G (snp T n mo) (S, h) Xt (0) Qs Ks Lo Wi) rfl ?_
  refine v_aload_n F dX8_remove_5 0 rfl rfl ?_
  refine v_iload_n F dX8_remove_6 1 rfl rfl ?_
  refine v_cVIF F cs_RX8_78 dX8_remove_7 0 (ci := 8) rfl rfl (m_X8_isLine lau G ad T n mo (S, h) Xt (0) Qs Ks Lo Wi line (by omega)) (by decide) rfl rfl (Nat.le_of_ble_eq_true rfl) ⟨Nat.zero_le _, Nat.zero_le _⟩ (fun r1 u2 w3 => ?_)
  subst w3
  refine v_if_ne F 19 dX8_remove_10 (by decide) (fun c4 => ?_) (fun c4 => ?_)
  · replace c4 := bI_t c4
    obtain ⟨li, hb0, rfl⟩ := hasB_of (by omega) c4
    have hc_li : (nI li).toNatClampNeg = li := nI_clamp (by omega)
    refine v_aload_n F dX8_remove_19 0 rfl rfl ?_
    refine v_cVVF F cs_RX8_71 dX8_remove_20 0 (ci := 8) rfl rfl (m_X8_saves lau G ad T n mo S h Xt (0) Qs Ks Lo Wi (by omega)) (by decide) rfl rfl (Nat.le_of_ble_eq_true rfl) ⟨Nat.zero_le _, Nat.zero_le _⟩ (fun u6 w7 => ?_)
    refine v_aload_n F dX8_remove_23 0 rfl rfl ?_
    refine v_iload_n F dX8_remove_24 1 rfl rfl ?_
    refine v_cVVF F cs_RX8_91 dX8_remove_25 0 (ci := 8) rfl rfl (m_X8_goes lau G ad T n mo (pSave S h T n mo, pSaveH h) Xt (0) Qs Ks Lo Wi li (by omega) (by omega)) (by decide) rfl rfl (Nat.le_of_ble_eq_true rfl) ⟨Nat.zero_le _, Nat.zero_le _⟩ (fun u9 w10 => ?_)
    refine v_aload_n F dX8_remove_28 0 rfl rfl ?_
    refine v_get (v := .ref (ad 1)) F inlX8 (ci := 8) rfl 0 (by decide) rfl wF_RX8_7 dX8_remove_29 0 rfl rfl ?_
    refine v_iconst (v := nI 1) F dX8_remove_32 (by decide) ?_
    refine v_ialdN F dX8_remove_33 1 rfl 1 rfl (by omega) (by decide) ((snp (pDrop T n li) (n - 1) mo) 1) rfl ?_
    refine v_topi (nI (n - 1)) rfl ?_
    refine v_w (w' := wM ad G (snp (pDrop T n li) (n - 1) mo) (pSave S h T n mo, pSaveH h) Xt (xRem n (nI li)) Qs Ks Lo Wi) (congrArg (fun z_ => wM ad G (snp (pDrop T n li) (n - 1) mo) (pSave S h T n mo, pSaveH h) Xt z_ Qs Ks Lo Wi) (show (0) = (xRem n (nI li)) by simp [xRem, *])) ?_
    exact v_iret F hr hlk hQ dX8_remove_34 (((snp (pDrop T n li) (n - 1) mo), (pSave S h T n mo, pSaveH h), Xt, Qs, Ks, Lo, Wi)) rfl (by first | exact ⟨fun q => absurd q (by simp [xRem, *]; done), fun _ => ⟨rfl, rfl, rfl⟩⟩ | exact ⟨fun _ => ⟨by rfl, by rw [hc_li], by rfl, by rfl⟩, fun q => absurd (by simp [xRem, *]) q⟩)
  · replace c4 := bI_f c4
    refine v_aload_n F dX8_remove_13 0 rfl rfl ?_
    refine v_iconst (v := nI 1) F dX8_remove_14 (by decide) ?_
    refine v_cVIF F cs_RX8_46 dX8_remove_15 0 (ci := 8) rfl rfl (m_X8_fails lau G ad (snp T n mo) (S, h) Xt (0) Qs Ks Lo Wi 1 ) (by decide) rfl rfl (Nat.le_of_ble_eq_true rfl) ⟨Nat.zero_le _, Nat.zero_le _⟩ (fun r11 u12 w13 => ?_)
    subst w13
    refine v_w (w' := wM ad G (snp T n mo) (S, h) Xt (xRem n line) Qs Ks Lo Wi) (congrArg (fun z_ => wM ad G (snp T n mo) (S, h) Xt z_ Qs Ks Lo Wi) (show 1 = (xRem n line) by simp [xRem, *])) ?_
    exact v_iret F hr hlk hQ dX8_remove_18 (((snp T n mo), (S, h), Xt, Qs, Ks, Lo, Wi)) rfl (by first | exact ⟨fun q => absurd q (by simp [xRem, *]; done), fun _ => ⟨rfl, rfl, rfl⟩⟩ | exact ⟨fun _ => ⟨by rfl, by rw [hc_li], by rfl, by rfl⟩, fun q => absurd (by simp [xRem, *]) q⟩)
set_option maxHeartbeats 4000000 in
set_option maxRecDepth 100000 in
theorem m_X8_go (lau : Launch) (G : GT) (ad : Nat → Nat) (T : Nat → Int32) (n mo : Nat) (S : Nat → Int32) (h : Nat) (Xt : XT) (Tw : Nat) (Qs : QT) (Ks : KS) (Lo Wi : Nat → Int32) (mm : Int32) (hn : n ≤ 20) (hh : h ≤ 6) : MI lau G 6 yX8_go cX8_go 3 (some .int) [.ref (ad 0), .int mm] (wM ad G (snp T n mo) (S, h) Xt Tw Qs Ks Lo Wi) (fun u : MS => wM ad G u.1 u.2.1 u.2.2.1 (xGo mm) u.2.2.2.1 u.2.2.2.2.1 u.2.2.2.2.2.1 u.2.2.2.2.2.2) (fun r u => (xGo mm = 0 → r = nI mo ∧ u.1 = snp T n mm.toNatClampNeg ∧ u.2.1 = (pSave S h T n mo, pSaveH h) ∧ u.2.2.1 = Xt) ∧ (¬ xGo mm = 0 → u.1 = snp T n mo ∧ u.2.1 = (S, h) ∧ u.2.2.1 = Xt)) := by
  refine mi_of (by decide +kernel) (Nat.le_of_ble_eq_true rfl) ?_
  intro p e s m args below meth c A Q F hr hlk hQ
  refine v_st (w' := wM ad G (snp T n mo) (S, h) Xt Tw Qs Ks Lo Wi) (pc' := 0) (st' := []) rfl rfl rfl [0, 1] (lv' := [(0, .ref (ad 0)), (1, .int mm)]) rfl ?_
  refine v_aload_n F dX8_go_0 0 rfl rfl ?_
  refine v_iconst (v := nI 0) F dX8_go_1 (by decide) ?_
  refine v_put F inlX8 (ci := 8) rfl tyX8 tyX8_ok nmX8 5 (by decide) rfl rfl wF_RX8_35 dX8_go_2 (ty := .int) (by decide +kernel) rfl rfl 0 rfl (Nat.le_of_ble_eq_true rfl) (wM ad G (snp T n mo) (S, h) Xt (0) Qs Ks Lo Wi) rfl ?_
  refine v_iload_n F dX8_go_5 1 rfl rfl ?_
  refine v_cSIE F cs_RX8_88 dX8_go_6 (m_X8_isMoment lau G mm ) (by decide) rfl rfl (Nat.le_of_ble_eq_true rfl) ⟨Nat.zero_le _, Nat.zero_le _⟩ (fun r1 u2 w3 => ?_)
  subst w3
  refine v_if_ne F 18 dX8_go_9 (by decide) (fun c4 => ?_) (fun c4 => ?_)
  · replace c4 := bI_t c4
    obtain ⟨mj, hmj, rfl⟩ := moB_of c4
    have hc_mj : (nI mj).toNatClampNeg = mj := nI_clamp (by omega)
    refine v_aload_n F dX8_go_18 0 rfl rfl ?_
    refine v_cVVF F cs_RX8_71 dX8_go_19 0 (ci := 8) rfl rfl (m_X8_saves lau G ad T n mo S h Xt (0) Qs Ks Lo Wi (by omega)) (by decide) rfl rfl (Nat.le_of_ble_eq_true rfl) ⟨Nat.zero_le _, Nat.zero_le _⟩ (fun u6 w7 => ?_)
    refine v_aload_n F dX8_go_22 0 rfl rfl ?_
    refine v_get (v := .ref (ad 1)) F inlX8 (ci := 8) rfl 0 (by decide) rfl wF_RX8_7 dX8_go_23 0 rfl rfl ?_
    refine v_iconst (v := nI 0) F dX8_go_26 (by decide) ?_
    refine v_ialdN F dX8_go_27 1 rfl 0 rfl (by omega) (by decide) ((snp T n mo) 0) rfl ?_
    refine v_topi (nI mo) rfl ?_
    refine v_istore_n (lv' := [(2, .int (nI mo)), (0, .ref (ad 0)), (1, .int (nI mj))]) F dX8_go_28 2 rfl (by decide) rfl ?_
    refine v_aload_n F dX8_go_29 0 rfl rfl ?_
    refine v_get (v := .ref (ad 1)) F inlX8 (ci := 8) rfl 0 (by decide) rfl wF_RX8_7 dX8_go_30 0 rfl rfl ?_
    refine v_iconst (v := nI 0) F dX8_go_33 (by decide) ?_
    refine v_iload_n F dX8_go_34 1 rfl rfl ?_
    refine v_iastN F dX8_go_35 1 rfl 0 rfl (by omega) (by decide) (wM ad G (upd (snp T n mo) 0 (nI mj)) (pSave S h T n mo, pSaveH h) Xt (0) Qs Ks Lo Wi) rfl ?_
    refine v_w (w' := wM ad G (snp T n mj) (pSave S h T n mo, pSaveH h) Xt (0) Qs Ks Lo Wi) (congrArg (fun z_ => wM ad G (z_) (pSave S h T n mo, pSaveH h) Xt (0) Qs Ks Lo Wi) upd_snp0) ?_
    refine v_iload_n F dX8_go_36 2 rfl rfl ?_
    refine v_w (w' := wM ad G (snp T n mj) (pSave S h T n mo, pSaveH h) Xt (xGo (nI mj)) Qs Ks Lo Wi) (congrArg (fun z_ => wM ad G (snp T n mj) (pSave S h T n mo, pSaveH h) Xt z_ Qs Ks Lo Wi) (show (0) = (xGo (nI mj)) by simp [xGo, *])) ?_
    exact v_iret F hr hlk hQ dX8_go_37 (((snp T n mj), (pSave S h T n mo, pSaveH h), Xt, Qs, Ks, Lo, Wi)) rfl (by first | exact ⟨fun q => absurd q (by simp [xGo, *]; done), fun _ => ⟨rfl, rfl, rfl⟩⟩ | exact ⟨fun _ => ⟨by rfl, by rw [hc_mj], by rfl, by rfl⟩, fun q => absurd (by simp [xGo, *]) q⟩)
  · replace c4 := bI_f c4
    refine v_aload_n F dX8_go_12 0 rfl rfl ?_
    refine v_iconst (v := nI 1) F dX8_go_13 (by decide) ?_
    refine v_cVIF F cs_RX8_46 dX8_go_14 0 (ci := 8) rfl rfl (m_X8_fails lau G ad (snp T n mo) (S, h) Xt (0) Qs Ks Lo Wi 1 ) (by decide) rfl rfl (Nat.le_of_ble_eq_true rfl) ⟨Nat.zero_le _, Nat.zero_le _⟩ (fun r8 u9 w10 => ?_)
    subst w10
    refine v_w (w' := wM ad G (snp T n mo) (S, h) Xt (xGo mm) Qs Ks Lo Wi) (congrArg (fun z_ => wM ad G (snp T n mo) (S, h) Xt z_ Qs Ks Lo Wi) (show 1 = (xGo mm) by simp [xGo, *])) ?_
    exact v_iret F hr hlk hQ dX8_go_17 (((snp T n mo), (S, h), Xt, Qs, Ks, Lo, Wi)) rfl (by first | exact ⟨fun q => absurd q (by simp [xGo, *]; done), fun _ => ⟨rfl, rfl, rfl⟩⟩ | exact ⟨fun _ => ⟨by rfl, by rw [hc_mj], by rfl, by rfl⟩, fun q => absurd (by simp [xGo, *]) q⟩)
set_option maxHeartbeats 4000000 in
set_option maxRecDepth 100000 in
theorem m_X8_append (lau : Launch) (G : GT) (ad : Nat → Nat) (N : Nat → Int32) (Hs : HT) (co : Nat → Int32) (len : Nat) (Tw : Nat) (Qs : QT) (Ks : KS) (Lo Wi : Nat → Int32) (code : Int32) (hlen : len ≤ 60) : MI lau G 6 yX8_append cX8_append 2 (some .int) [.ref (ad 0), .int code] (wM ad G N Hs (co, len) Tw Qs Ks Lo Wi) (fun u : MS => wM ad G u.1 u.2.1 u.2.2.1 (xApp len code) u.2.2.2.1 u.2.2.2.2.1 u.2.2.2.2.2.1 u.2.2.2.2.2.2) (fun r u => (xApp len code = 0 → r = nI (len + 1) ∧ u.1 = N ∧ u.2.1 = Hs ∧ u.2.2.1 = (upd co len code, len + 1)) ∧ (¬ xApp len code = 0 → u.1 = N ∧ u.2.1 = Hs ∧ u.2.2.1 = (co, len))) := by
  refine mi_of (by decide +kernel) (Nat.le_of_ble_eq_true rfl) ?_
  intro p e s m args below meth c A Q F hr hlk hQ
  refine v_st (w' := wM ad G N Hs (co, len) Tw Qs Ks Lo Wi) (pc' := 0) (st' := []) rfl rfl rfl [0, 1] (lv' := [(0, .ref (ad 0)), (1, .int code)]) rfl ?_
  refine v_aload_n F dX8_append_0 0 rfl rfl ?_
  refine v_iconst (v := nI 0) F dX8_append_1 (by decide) ?_
  refine v_put F inlX8 (ci := 8) rfl tyX8 tyX8_ok nmX8 5 (by decide) rfl rfl wF_RX8_35 dX8_append_2 (ty := .int) (by decide +kernel) rfl rfl 0 rfl (Nat.le_of_ble_eq_true rfl) (wM ad G N Hs (co, len) (0) Qs Ks Lo Wi) rfl ?_
  refine v_iload_n F dX8_append_5 1 rfl rfl ?_
  refine v_bipush (v := nI 33) F dX8_append_6 (by decide) ?_
  refine v_bipush (v := nI 126) F dX8_append_8 (by decide) ?_
  refine v_cSIE F cs_RX8_39 dX8_append_10 (m_X8_in lau G code (nI 33) (nI 126) ) (by decide) rfl rfl (Nat.le_of_ble_eq_true rfl) ⟨Nat.zero_le _, Nat.zero_le _⟩ (fun r1 u2 w3 => ?_)
  subst w3
  refine v_if_ne F 22 dX8_append_13 (by decide) (fun c4 => ?_) (fun c4 => ?_)
  · replace c4 := bI_t c4
    have hxa := xApp_t (len := len) c4
    refine v_aload_n F dX8_append_22 0 rfl rfl ?_
    refine v_get (v := .int (nI len)) F inlX8 (ci := 8) rfl 4 (by decide) rfl wF_RX8_122 dX8_append_23 0 rfl rfl ?_
    refine v_bipush (v := nI 60) F dX8_append_26 (by decide) ?_
    refine v_icmp_ne F 37 dX8_append_28 (by decide) (fun c5 => ?_) (fun c5 => ?_)
    · replace c5 := nEn (a := len) (b := 60) (by omega) (by decide) c5
      have h60b : ¬ 60 ≤ len := by omega
      refine v_aload_n F dX8_append_37 0 rfl rfl ?_
      refine v_get (v := .ref (ad 3)) F inlX8 (ci := 8) rfl 3 (by decide) rfl wF_RX8_16 dX8_append_38 0 rfl rfl ?_
      refine v_aload_n F dX8_append_41 0 rfl rfl ?_
      refine v_get (v := .int (nI len)) F inlX8 (ci := 8) rfl 4 (by decide) rfl wF_RX8_122 dX8_append_42 0 rfl rfl ?_
      refine v_iload_n F dX8_append_45 1 rfl rfl ?_
      refine v_iastN F dX8_append_46 3 rfl len rfl (by omega) (by decide) (wM ad G N Hs (upd co len code, len) (0) Qs Ks Lo Wi) rfl ?_
      refine v_aload_n F dX8_append_47 0 rfl rfl ?_
      refine v_dup F dX8_append_48 rfl ?_
      refine v_get (v := .int (nI len)) F inlX8 (ci := 8) rfl 4 (by decide) rfl wF_RX8_122 dX8_append_49 0 rfl rfl ?_
      refine v_iconst (v := nI 1) F dX8_append_52 (by decide) ?_
      refine v_iadd F dX8_append_53 ?_
      refine v_topi (nI (len + 1)) (nI_add len 1) ?_
      refine v_put F inlX8 (ci := 8) rfl tyX8 tyX8_ok nmX8 4 (by decide) rfl rfl wF_RX8_122 dX8_append_54 (ty := .int) (by decide +kernel) rfl rfl 0 rfl (Nat.le_of_ble_eq_true rfl) (wM ad G N Hs (upd co len code, len + 1) (0) Qs Ks Lo Wi) rfl ?_
      refine v_aload_n F dX8_append_57 0 rfl rfl ?_
      refine v_get (v := .int (nI (len + 1))) F inlX8 (ci := 8) rfl 4 (by decide) rfl wF_RX8_122 dX8_append_58 0 rfl rfl ?_
      refine v_w (w' := wM ad G N Hs (upd co len code, len + 1) (xApp len code) Qs Ks Lo Wi) (congrArg (fun z_ => wM ad G N Hs (upd co len code, len + 1) z_ Qs Ks Lo Wi) (show (0) = (xApp len code) by simp [if_true, *])) ?_
      exact v_iret F hr hlk hQ dX8_append_61 ((N, Hs, (upd co len code, len + 1), Qs, Ks, Lo, Wi)) rfl (by first | exact ⟨fun q => absurd q (by simp [if_true, *]; done), fun _ => ⟨rfl, rfl, rfl⟩⟩ | exact ⟨fun _ => ⟨by rfl, by rfl, by rfl, by rfl⟩, fun q => absurd (by simp [if_true, *]) q⟩)
    · replace c5 := nE (a := len) (b := 60) (by omega) (by decide) c5
      have h60b : 60 ≤ len := by omega
      rw [c5] at hxa
      refine v_aload_n F dX8_append_31 0 rfl rfl ?_
      refine v_iconst (v := nI 2) F dX8_append_32 (by decide) ?_
      refine v_cVIF F cs_RX8_46 dX8_append_33 0 (ci := 8) rfl rfl (m_X8_fails lau G ad N Hs (co, len) (0) Qs Ks Lo Wi 2 ) (by decide) rfl rfl (Nat.le_of_ble_eq_true rfl) ⟨Nat.zero_le _, Nat.zero_le _⟩ (fun r6 u7 w8 => ?_)
      subst w8
      refine v_w (w' := wM ad G N Hs (co, len) (xApp len code) Qs Ks Lo Wi) (congrArg (fun z_ => wM ad G N Hs (co, len) z_ Qs Ks Lo Wi) (show 2 = (xApp len code) by simp [if_true, *])) ?_
      exact v_iret F hr hlk hQ dX8_append_36 ((N, Hs, (co, len), Qs, Ks, Lo, Wi)) rfl (by first | exact ⟨fun q => absurd q (by simp [if_true, *]; done), fun _ => ⟨rfl, rfl, rfl⟩⟩ | exact ⟨fun _ => ⟨by rfl, by rfl, by rfl, by rfl⟩, fun q => absurd (by simp [if_true, *]) q⟩)
  · replace c4 := bI_f c4
    have hxa := xApp_f (len := len) c4
    refine v_aload_n F dX8_append_16 0 rfl rfl ?_
    refine v_iconst (v := nI 1) F dX8_append_17 (by decide) ?_
    refine v_cVIF F cs_RX8_46 dX8_append_18 0 (ci := 8) rfl rfl (m_X8_fails lau G ad N Hs (co, len) (0) Qs Ks Lo Wi 1 ) (by decide) rfl rfl (Nat.le_of_ble_eq_true rfl) ⟨Nat.zero_le _, Nat.zero_le _⟩ (fun r9 u10 w11 => ?_)
    subst w11
    refine v_w (w' := wM ad G N Hs (co, len) (xApp len code) Qs Ks Lo Wi) (congrArg (fun z_ => wM ad G N Hs (co, len) z_ Qs Ks Lo Wi) (show 1 = (xApp len code) by simp [if_true, *])) ?_
    exact v_iret F hr hlk hQ dX8_append_21 ((N, Hs, (co, len), Qs, Ks, Lo, Wi)) rfl (by first | exact ⟨fun q => absurd q (by simp [if_true, *]; done), fun _ => ⟨rfl, rfl, rfl⟩⟩ | exact ⟨fun _ => ⟨by rfl, by rfl, by rfl, by rfl⟩, fun q => absurd (by simp [if_true, *]) q⟩)
set_option maxHeartbeats 4000000 in
set_option maxRecDepth 100000 in
theorem m_X8_clearBuffer (lau : Launch) (G : GT) (ad : Nat → Nat) (N : Nat → Int32) (Hs : HT) (co : Nat → Int32) (len : Nat) (Tw : Nat) (Qs : QT) (Ks : KS) (Lo Wi : Nat → Int32) : MI lau G 6 yX8_clearBuffer cX8_clearBuffer 2 (some .int) [.ref (ad 0)] (wM ad G N Hs (co, len) Tw Qs Ks Lo Wi) (fun u : MS => wM ad G u.1 u.2.1 u.2.2.1 (0) u.2.2.2.1 u.2.2.2.2.1 u.2.2.2.2.2.1 u.2.2.2.2.2.2) (fun r u => (0 = 0 → r = nI len ∧ u.1 = N ∧ u.2.1 = Hs ∧ u.2.2.1 = (co, 0)) ∧ (¬ 0 = 0 → u.1 = N ∧ u.2.1 = Hs ∧ u.2.2.1 = (co, len))) := by
  refine mi_of (by decide +kernel) (Nat.le_of_ble_eq_true rfl) ?_
  intro p e s m args below meth c A Q F hr hlk hQ
  refine v_st (w' := wM ad G N Hs (co, len) Tw Qs Ks Lo Wi) (pc' := 0) (st' := []) rfl rfl rfl [0] (lv' := [(0, .ref (ad 0))]) rfl ?_
  refine v_aload_n F dX8_clearBuffer_0 0 rfl rfl ?_
  refine v_iconst (v := nI 0) F dX8_clearBuffer_1 (by decide) ?_
  refine v_put F inlX8 (ci := 8) rfl tyX8 tyX8_ok nmX8 5 (by decide) rfl rfl wF_RX8_35 dX8_clearBuffer_2 (ty := .int) (by decide +kernel) rfl rfl 0 rfl (Nat.le_of_ble_eq_true rfl) (wM ad G N Hs (co, len) (0) Qs Ks Lo Wi) rfl ?_
  refine v_aload_n F dX8_clearBuffer_5 0 rfl rfl ?_
  refine v_get (v := .int (nI len)) F inlX8 (ci := 8) rfl 4 (by decide) rfl wF_RX8_122 dX8_clearBuffer_6 0 rfl rfl ?_
  refine v_istore_n (lv' := [(1, .int (nI len)), (0, .ref (ad 0))]) F dX8_clearBuffer_9 1 rfl (by decide) rfl ?_
  refine v_aload_n F dX8_clearBuffer_10 0 rfl rfl ?_
  refine v_iconst (v := nI 0) F dX8_clearBuffer_11 (by decide) ?_
  refine v_put F inlX8 (ci := 8) rfl tyX8 tyX8_ok nmX8 4 (by decide) rfl rfl wF_RX8_122 dX8_clearBuffer_12 (ty := .int) (by decide +kernel) rfl rfl 0 rfl (Nat.le_of_ble_eq_true rfl) (wM ad G N Hs (co, 0) (0) Qs Ks Lo Wi) rfl ?_
  refine v_iload_n F dX8_clearBuffer_15 1 rfl rfl ?_
  exact v_iret F hr hlk hQ dX8_clearBuffer_16 ((N, Hs, (co, 0), Qs, Ks, Lo, Wi)) rfl (by first | exact ⟨fun q => absurd q (by simp; done), fun _ => ⟨rfl, rfl, rfl⟩⟩ | exact ⟨fun _ => ⟨by rfl, by rfl, by rfl, by rfl⟩, fun q => absurd (by simp) q⟩)
