set_option maxHeartbeats 400000 in
set_option maxRecDepth 100000 in
theorem m_X8_begins (lau : Launch) (G : GT) (v a b : Nat) (hv : v < 1000) (ha : a < 1000) (hb : b < 1000) : MI lau G 1 yX8_begins cX8_begins 3 (some .boolean) [.int (nI v), .int (nI a), .int (nI b)] ([]) (fun u : Unit => []) (fun r u => r = bI (bgB v a b)) := by
  refine mi_of (by decide +kernel) (Nat.le_of_ble_eq_true rfl) ?_
  intro p e s m args below meth c A Q F hr hlk hQ
  refine v_st (w' := []) (pc' := 0) (st' := []) rfl rfl rfl [0, 1, 2] (lv' := [(0, .int (nI v)), (1, .int (nI a)), (2, .int (nI b))]) rfl ?_
  refine v_iload_n F dX8_begins_0 0 rfl rfl ?_
  refine v_iload_n F dX8_begins_1 1 rfl rfl ?_
  refine v_iload_n F dX8_begins_2 2 rfl rfl ?_
  refine v_cSIE F cs_RX8_39 dX8_begins_3 (m_X8_in lau G (nI v) (nI a) (nI b) ) (by decide) rfl rfl (Nat.le_of_ble_eq_true rfl) ⟨Nat.zero_le _, Nat.zero_le _⟩ (fun r1 u2 w3 => ?_)
  subst w3
  refine v_topi (bI (inN v a b)) (congrArg bI (inB_N (by omega) (by omega) (by omega))) ?_
  refine v_if_ne F 32 dX8_begins_6 (by decide) (fun c4 => ?_) (fun c4 => ?_)
  · replace c4 := bI_t c4
    refine v_iconst (v := nI 1) F dX8_begins_32 (by decide) ?_
    refine v_goto F 37 dX8_begins_33 (by decide) ?_
    exact v_zret F hr hlk hQ rfl dX8_begins_37 (()) rfl (by simp [bgB, bI, nI_0, nI_one, *]; try omega)
  · replace c4 := bI_f c4
    refine v_iload_n F dX8_begins_9 0 rfl rfl ?_
    refine v_if_le F 36 dX8_begins_10 (by decide) (fun c5 => ?_) (fun c5 => ?_)
    · replace c5 := nK (a := v) (b := 0) (by omega) (by decide) c5
      refine v_iconst (v := nI 0) F dX8_begins_36 (by decide) ?_
      exact v_zret F hr hlk hQ rfl dX8_begins_37 (()) rfl (by simp [bgB, bI, nI_0, nI_one, *]; try omega)
    · replace c5 := nKn (a := v) (b := 0) (by omega) (by decide) c5
      refine v_bipush (v := nI 10) F dX8_begins_13 (by decide) ?_
      refine v_iload_n F dX8_begins_15 0 rfl rfl ?_
      refine v_imul F dX8_begins_16 ?_
      refine v_topi (nI (10 * v)) (pk_mul 10 v) ?_
      refine v_bipush (v := nI 9) F dX8_begins_17 (by decide) ?_
      refine v_iadd F dX8_begins_19 ?_
      refine v_topi (nI ((10 * v) + 9)) (nI_add (10 * v) 9) ?_
      refine v_iload_n F dX8_begins_20 1 rfl rfl ?_
      refine v_icmp_lt F 36 dX8_begins_21 (by decide) (fun c6 => ?_) (fun c6 => ?_)
      · replace c6 := nL (a := ((10 * v) + 9)) (b := a) (by omega) (by omega) c6
        refine v_iconst (v := nI 0) F dX8_begins_36 (by decide) ?_
        exact v_zret F hr hlk hQ rfl dX8_begins_37 (()) rfl (by simp [bgB, bI, nI_0, nI_one, *]; try omega)
      · replace c6 := nLn (a := ((10 * v) + 9)) (b := a) (by omega) (by omega) c6
        refine v_bipush (v := nI 10) F dX8_begins_24 (by decide) ?_
        refine v_iload_n F dX8_begins_26 0 rfl rfl ?_
        refine v_imul F dX8_begins_27 ?_
        refine v_topi (nI (10 * v)) (pk_mul 10 v) ?_
        refine v_iload_n F dX8_begins_28 2 rfl rfl ?_
        refine v_icmp_gt F 36 dX8_begins_29 (by decide) (fun c7 => ?_) (fun c7 => ?_)
        · replace c7 := nT (a := (10 * v)) (b := b) (by omega) (by omega) c7
          refine v_iconst (v := nI 0) F dX8_begins_36 (by decide) ?_
          exact v_zret F hr hlk hQ rfl dX8_begins_37 (()) rfl (by simp [bgB, bI, nI_0, nI_one, *]; try omega)
        · replace c7 := nTn (a := (10 * v)) (b := b) (by omega) (by omega) c7
          refine v_iconst (v := nI 1) F dX8_begins_32 (by decide) ?_
          refine v_goto F 37 dX8_begins_33 (by decide) ?_
          exact v_zret F hr hlk hQ rfl dX8_begins_37 (()) rfl (by simp [bgB, bI, nI_0, nI_one, *]; try omega)
set_option maxHeartbeats 400000 in
set_option maxRecDepth 100000 in
theorem m_X8_isAt (lau : Launch) (G : GT) (ad : Nat → Nat) (N : Nat → Int32) (Hs : HT) (co : Nat → Int32) (len : Nat) (Tw : Nat) (i : Nat) (ft : Bool) (vl : Nat) (td : Nat → Int32) (tn : Nat) (Ks : KS) (Lo Wi : Nat → Int32) (a b : Nat) (ha : a < 1000) (hb : b < 1000) (hi : i ≤ len) (hX : TXOK co len) : MI lau G 1 yX8_isAt cX8_isAt 3 (some .boolean) [.ref (ad 0), .int (nI a), .int (nI b)] (wM ad G N Hs (co, len) Tw (i, ft, vl, td, tn) Ks Lo Wi) (fun u : Unit => wM ad G N Hs (co, len) Tw (i, ft, vl, td, tn) Ks Lo Wi) (fun r u => r = bI (atB co len i a b)) := by
  have hlen := hX.1
  have hcn := cN_lt co i
  refine mi_of (by decide +kernel) (Nat.le_of_ble_eq_true rfl) ?_
  intro p e s m args below meth c A Q F hr hlk hQ
  refine v_st (w' := wM ad G N Hs (co, len) Tw (i, ft, vl, td, tn) Ks Lo Wi) (pc' := 0) (st' := []) rfl rfl rfl [0, 1, 2] (lv' := [(0, .ref (ad 0)), (1, .int (nI a)), (2, .int (nI b))]) rfl ?_
  refine v_aload_n F dX8_isAt_0 0 rfl rfl ?_
  refine v_get (v := .int (nI i)) F inlX8 (ci := 8) rfl 6 (by decide) rfl wF_RX8_125 dX8_isAt_1 0 rfl rfl ?_
  refine v_aload_n F dX8_isAt_4 0 rfl rfl ?_
  refine v_get (v := .int (nI len)) F inlX8 (ci := 8) rfl 4 (by decide) rfl wF_RX8_122 dX8_isAt_5 0 rfl rfl ?_
  refine v_icmp_ge F 32 dX8_isAt_8 (by decide) (fun c1 => ?_) (fun c1 => ?_)
  · replace c1 := nG (a := i) (b := len) (by omega) (by omega) c1
    refine v_iconst (v := nI 0) F dX8_isAt_32 (by decide) ?_
    exact v_zret F hr hlk hQ rfl dX8_isAt_33 (()) rfl (by simp [atB, bI, nI_0, nI_one, *]; try omega)
  · replace c1 := nGn (a := i) (b := len) (by omega) (by omega) c1
    refine v_aload_n F dX8_isAt_11 0 rfl rfl ?_
    refine v_get (v := .ref (ad 3)) F inlX8 (ci := 8) rfl 3 (by decide) rfl wF_RX8_16 dX8_isAt_12 0 rfl rfl ?_
    refine v_aload_n F dX8_isAt_15 0 rfl rfl ?_
    refine v_get (v := .int (nI i)) F inlX8 (ci := 8) rfl 6 (by decide) rfl wF_RX8_125 dX8_isAt_16 0 rfl rfl ?_
    refine v_ialdN F dX8_isAt_19 3 rfl i rfl (by omega) (by decide) (co i) rfl ?_
    refine v_topi (nI (cN co i)) (cN_of hX (by omega)) ?_
    refine v_iload_n F dX8_isAt_20 1 rfl rfl ?_
    refine v_iload_n F dX8_isAt_21 2 rfl rfl ?_
    refine v_cSIE F cs_RX8_39 dX8_isAt_22 (m_X8_in lau G (nI (cN co i)) (nI a) (nI b) ) (by decide) rfl rfl (Nat.le_of_ble_eq_true rfl) ⟨Nat.zero_le _, Nat.zero_le _⟩ (fun r2 u3 w4 => ?_)
    subst w4
    refine v_topi (bI (inN (cN co i) a b)) (congrArg bI (inB_N (cN_lt co i) (by omega) (by omega))) ?_
    refine v_if_eq F 32 dX8_isAt_25 (by decide) (fun c5 => ?_) (fun c5 => ?_)
    · replace c5 := bI_f c5
      refine v_iconst (v := nI 0) F dX8_isAt_32 (by decide) ?_
      exact v_zret F hr hlk hQ rfl dX8_isAt_33 (()) rfl (by simp [atB, bI, nI_0, nI_one, *]; try omega)
    · replace c5 := bI_t c5
      refine v_iconst (v := nI 1) F dX8_isAt_28 (by decide) ?_
      refine v_goto F 33 dX8_isAt_29 (by decide) ?_
      exact v_zret F hr hlk hQ rfl dX8_isAt_33 (()) rfl (by simp [atB, bI, nI_0, nI_one, *]; try omega)
set_option maxHeartbeats 400000 in
set_option maxRecDepth 100000 in
theorem m_X8_stops (lau : Launch) (G : GT) (ad : Nat → Nat) (N : Nat → Int32) (Hs : HT) (co : Nat → Int32) (len : Nat) (Tw : Nat) (i : Nat) (ft : Bool) (vl : Nat) (td : Nat → Int32) (tn : Nat) (Ks : KS) (Lo Wi : Nat → Int32) (hi : i ≤ len) (hX : TXOK co len) : MI lau G 0 yX8_stops cX8_stops 1 (some .boolean) [.ref (ad 0)] (wM ad G N Hs (co, len) Tw (i, ft, vl, td, tn) Ks Lo Wi) (fun u : Unit => wM ad G N Hs (co, len) Tw (stQ len (i, ft, vl, td, tn)) Ks Lo Wi) (fun r u => r = bI false) := by
  have hlen := hX.1
  have hcn := cN_lt co i
  refine mi_of (by decide +kernel) (Nat.le_of_ble_eq_true rfl) ?_
  intro p e s m args below meth c A Q F hr hlk hQ
  refine v_st (w' := wM ad G N Hs (co, len) Tw (i, ft, vl, td, tn) Ks Lo Wi) (pc' := 0) (st' := []) rfl rfl rfl [0] (lv' := [(0, .ref (ad 0))]) rfl ?_
  refine v_aload_n F dX8_stops_0 0 rfl rfl ?_
  refine v_aload_n F dX8_stops_1 0 rfl rfl ?_
  refine v_get (v := .int (nI i)) F inlX8 (ci := 8) rfl 6 (by decide) rfl wF_RX8_125 dX8_stops_2 0 rfl rfl ?_
  refine v_aload_n F dX8_stops_5 0 rfl rfl ?_
  refine v_get (v := .int (nI len)) F inlX8 (ci := 8) rfl 4 (by decide) rfl wF_RX8_122 dX8_stops_6 0 rfl rfl ?_
  refine v_icmp_ge F 16 dX8_stops_9 (by decide) (fun c1 => ?_) (fun c1 => ?_)
  · replace c1 := nG (a := i) (b := len) (by omega) (by omega) c1
    refine v_iconst (v := nI 0) F dX8_stops_16 (by decide) ?_
    refine v_put F inlX8 (ci := 8) rfl tyX8 tyX8_ok nmX8 7 (by decide) rfl rfl wF_RX8_127 dX8_stops_17 (ty := .boolean) (by decide +kernel) (nar_b false) (fit_b false) 0 rfl (Nat.le_of_ble_eq_true rfl) (wM ad G N Hs (co, len) Tw (i, false, vl, td, tn) Ks Lo Wi) rfl ?_
    refine v_iconst (v := nI 0) F dX8_stops_20 (by decide) ?_
    refine v_w (w' := wM ad G N Hs (co, len) Tw (stQ len (i, ft, vl, td, tn)) Ks Lo Wi) (congrArg (fun z_ => wM ad G N Hs (co, len) Tw z_ Ks Lo Wi) (show (i, false, vl, td, tn) = (stQ len (i, ft, vl, td, tn)) by simp [stQ, *]; try omega)) ?_
    exact v_zret F hr hlk hQ rfl dX8_stops_21 (()) rfl (by rfl)
  · replace c1 := nGn (a := i) (b := len) (by omega) (by omega) c1
    refine v_iconst (v := nI 1) F dX8_stops_12 (by decide) ?_
    refine v_goto F 17 dX8_stops_13 (by decide) ?_
    refine v_put F inlX8 (ci := 8) rfl tyX8 tyX8_ok nmX8 7 (by decide) rfl rfl wF_RX8_127 dX8_stops_17 (ty := .boolean) (by decide +kernel) (nar_b true) (fit_b true) 0 rfl (Nat.le_of_ble_eq_true rfl) (wM ad G N Hs (co, len) Tw (i, true, vl, td, tn) Ks Lo Wi) rfl ?_
    refine v_iconst (v := nI 0) F dX8_stops_20 (by decide) ?_
    refine v_w (w' := wM ad G N Hs (co, len) Tw (stQ len (i, ft, vl, td, tn)) Ks Lo Wi) (congrArg (fun z_ => wM ad G N Hs (co, len) Tw z_ Ks Lo Wi) (show (i, true, vl, td, tn) = (stQ len (i, ft, vl, td, tn)) by simp [stQ, *]; try omega)) ?_
    exact v_zret F hr hlk hQ rfl dX8_stops_21 (()) rfl (by rfl)
theorem cs_RX8_131 : CSV RX8 131 RX8 yX8_isAt cX8_isAt 3 (some .boolean) 2 := ⟨wC_yX8_isAt, wM_RX8_131, wIm_yX8_isAt, wSe_yX8_isAt, wI_RX8, by decide +kernel, by decide⟩
theorem cs_RX8_134 : CSV RX8 134 RX8 yX8_stops cX8_stops 1 (some .boolean) 0 := ⟨wC_yX8_stops, wM_RX8_134, wIm_yX8_stops, wSe_yX8_stops, wI_RX8, by decide +kernel, by decide⟩
set_option maxHeartbeats 400000 in
set_option maxRecDepth 100000 in
theorem m_X8_isSign (lau : Launch) (G : GT) (ad : Nat → Nat) (N : Nat → Int32) (Hs : HT) (co : Nat → Int32) (len : Nat) (Tw : Nat) (i : Nat) (ft : Bool) (vl : Nat) (td : Nat → Int32) (tn : Nat) (Ks : KS) (Lo Wi : Nat → Int32) (sg : Nat) (ha : sg < 1000) (hi : i ≤ len) (hX : TXOK co len) : MI lau G 2 yX8_isSign cX8_isSign 2 (some .boolean) [.ref (ad 0), .int (nI sg)] (wM ad G N Hs (co, len) Tw (i, ft, vl, td, tn) Ks Lo Wi) (fun u : Unit => wM ad G N Hs (co, len) Tw (sgQ co len sg (i, ft, vl, td, tn)) Ks Lo Wi) (fun r u => r = bI (atB co len i sg sg)) := by
  have hlen := hX.1
  have hcn := cN_lt co i
  refine mi_of (by decide +kernel) (Nat.le_of_ble_eq_true rfl) ?_
  intro p e s m args below meth c A Q F hr hlk hQ
  refine v_st (w' := wM ad G N Hs (co, len) Tw (i, ft, vl, td, tn) Ks Lo Wi) (pc' := 0) (st' := []) rfl rfl rfl [0, 1] (lv' := [(0, .ref (ad 0)), (1, .int (nI sg))]) rfl ?_
  refine v_aload_n F dX8_isSign_0 0 rfl rfl ?_
  refine v_iload_n F dX8_isSign_1 1 rfl rfl ?_
  refine v_iload_n F dX8_isSign_2 1 rfl rfl ?_
  refine v_cVIF F cs_RX8_131 dX8_isSign_3 0 (ci := 8) rfl rfl (m_X8_isAt lau G ad N Hs co len Tw i ft vl td tn Ks Lo Wi sg sg (by omega) (by omega) (by omega) hX) (by decide) rfl rfl (Nat.le_of_ble_eq_true rfl) ⟨Nat.zero_le _, Nat.zero_le _⟩ (fun r1 u2 w3 => ?_)
  subst w3
  refine v_if_ne F 14 dX8_isSign_6 (by decide) (fun h6 => ?_) (fun h6 => ?_)
  · replace h6 := bI_t h6
    refine v_aload_n F dX8_isSign_14 0 rfl rfl ?_
    refine v_dup F dX8_isSign_15 rfl ?_
    refine v_get (v := .int (nI i)) F inlX8 (ci := 8) rfl 6 (by decide) rfl wF_RX8_125 dX8_isSign_16 0 rfl rfl ?_
    refine v_iconst (v := nI 1) F dX8_isSign_19 (by decide) ?_
    refine v_iadd F dX8_isSign_20 ?_
    refine v_topi (nI (i + 1)) (nI_add i 1) ?_
    refine v_put F inlX8 (ci := 8) rfl tyX8 tyX8_ok nmX8 6 (by decide) rfl rfl wF_RX8_125 dX8_isSign_21 (ty := .int) (by decide +kernel) rfl rfl 0 rfl (Nat.le_of_ble_eq_true rfl) (wM ad G N Hs (co, len) Tw (i + 1, ft, vl, td, tn) Ks Lo Wi) rfl ?_
    refine v_iconst (v := nI 1) F dX8_isSign_24 (by decide) ?_
    refine v_w (w' := wM ad G N Hs (co, len) Tw (sgQ co len sg (i, ft, vl, td, tn)) Ks Lo Wi) (congrArg (fun z_ => wM ad G N Hs (co, len) Tw z_ Ks Lo Wi) (show (i + 1, ft, vl, td, tn) = (sgQ co len sg (i, ft, vl, td, tn)) by simp [sgQ, h6])) ?_
    exact v_zret F hr hlk hQ rfl dX8_isSign_25 (()) rfl (by simp [bI, nI_0, nI_one, *])
  · replace h6 := bI_f h6
    refine v_aload_n F dX8_isSign_9 0 rfl rfl ?_
    refine v_cVIF F cs_RX8_134 dX8_isSign_10 0 (ci := 8) rfl rfl (m_X8_stops lau G ad N Hs co len Tw i ft vl td tn Ks Lo Wi (by omega) hX) (by decide) rfl rfl (Nat.le_of_ble_eq_true rfl) ⟨Nat.zero_le _, Nat.zero_le _⟩ (fun r4 u5 w6 => ?_)
    subst w6
    refine v_w (w' := wM ad G N Hs (co, len) Tw (sgQ co len sg (i, ft, vl, td, tn)) Ks Lo Wi) (congrArg (fun z_ => wM ad G N Hs (co, len) Tw z_ Ks Lo Wi) (show (stQ len (i, ft, vl, td, tn)) = (sgQ co len sg (i, ft, vl, td, tn)) by simp [sgQ, h6])) ?_
    exact v_zret F hr hlk hQ (nar_b false) dX8_isSign_13 (()) rfl (by simp [bI, nI_0, nI_one, *])
set_option maxHeartbeats 400000 in
set_option maxRecDepth 100000 in
theorem m_X8_isMinus (lau : Launch) (G : GT) (ad : Nat → Nat) (N : Nat → Int32) (Hs : HT) (co : Nat → Int32) (len : Nat) (Tw : Nat) (i : Nat) (ft : Bool) (vl : Nat) (td : Nat → Int32) (tn : Nat) (Ks : KS) (Lo Wi : Nat → Int32) (hi : i ≤ len) (hX : TXOK co len) : MI lau G 2 yX8_isMinus cX8_isMinus 2 (some .boolean) [.ref (ad 0)] (wM ad G N Hs (co, len) Tw (i, ft, vl, td, tn) Ks Lo Wi) (fun u : Unit => wM ad G N Hs (co, len) Tw (mnQ co len (i, ft, vl, td, tn)) Ks Lo Wi) (fun r u => r = bI (atB co len i 45 45)) := by
  have hlen := hX.1
  have hcn := cN_lt co i
  refine mi_of (by decide +kernel) (Nat.le_of_ble_eq_true rfl) ?_
  intro p e s m args below meth c A Q F hr hlk hQ
  refine v_st (w' := wM ad G N Hs (co, len) Tw (i, ft, vl, td, tn) Ks Lo Wi) (pc' := 0) (st' := []) rfl rfl rfl [0] (lv' := [(0, .ref (ad 0))]) rfl ?_
  refine v_aload_n F dX8_isMinus_0 0 rfl rfl ?_
  refine v_bipush (v := nI 45) F dX8_isMinus_1 (by decide) ?_
  refine v_bipush (v := nI 45) F dX8_isMinus_3 (by decide) ?_
  refine v_cVIF F cs_RX8_131 dX8_isMinus_5 0 (ci := 8) rfl rfl (m_X8_isAt lau G ad N Hs co len Tw i ft vl td tn Ks Lo Wi 45 45 (by omega) (by omega) (by omega) hX) (by decide) rfl rfl (Nat.le_of_ble_eq_true rfl) ⟨Nat.zero_le _, Nat.zero_le _⟩ (fun r1 u2 w3 => ?_)
  subst w3
  refine v_istore_n (lv' := [(1, .int (bI (atB co len i 45 45))), (0, .ref (ad 0))]) F dX8_isMinus_8 1 rfl (by decide) rfl ?_
  refine v_aload_n F dX8_isMinus_9 0 rfl rfl ?_
  refine v_dup F dX8_isMinus_10 rfl ?_
  refine v_get (v := .int (nI i)) F inlX8 (ci := 8) rfl 6 (by decide) rfl wF_RX8_125 dX8_isMinus_11 0 rfl rfl ?_
  refine v_iload_n F dX8_isMinus_14 1 rfl rfl ?_
  refine v_if_eq F 22 dX8_isMinus_15 (by decide) (fun h15 => ?_) (fun h15 => ?_)
  · replace h15 := bI_f h15
    refine v_iconst (v := nI 0) F dX8_isMinus_22 (by decide) ?_
    refine v_iadd F dX8_isMinus_23 ?_
    refine v_topi (nI (i + 0)) (nI_add i 0) ?_
    refine v_put F inlX8 (ci := 8) rfl tyX8 tyX8_ok nmX8 6 (by decide) rfl rfl wF_RX8_125 dX8_isMinus_24 (ty := .int) (by decide +kernel) rfl rfl 0 rfl (Nat.le_of_ble_eq_true rfl) (wM ad G N Hs (co, len) Tw (i + 0, ft, vl, td, tn) Ks Lo Wi) rfl ?_
    refine v_iload_n F dX8_isMinus_27 1 rfl rfl ?_
    refine v_w (w' := wM ad G N Hs (co, len) Tw (mnQ co len (i, ft, vl, td, tn)) Ks Lo Wi) (congrArg (fun z_ => wM ad G N Hs (co, len) Tw z_ Ks Lo Wi) (show (i + 0, ft, vl, td, tn) = (mnQ co len (i, ft, vl, td, tn)) by simp [mnQ, h15])) ?_
    exact v_zret F hr hlk hQ (nar_b (atB co len i 45 45)) dX8_isMinus_28 (()) rfl (by first | rfl | simp [bI, nI_0, nI_one, *])
  · replace h15 := bI_t h15
    refine v_iconst (v := nI 1) F dX8_isMinus_18 (by decide) ?_
    refine v_goto F 23 dX8_isMinus_19 (by decide) ?_
    refine v_iadd F dX8_isMinus_23 ?_
    refine v_topi (nI (i + 1)) (nI_add i 1) ?_
    refine v_put F inlX8 (ci := 8) rfl tyX8 tyX8_ok nmX8 6 (by decide) rfl rfl wF_RX8_125 dX8_isMinus_24 (ty := .int) (by decide +kernel) rfl rfl 0 rfl (Nat.le_of_ble_eq_true rfl) (wM ad G N Hs (co, len) Tw (i + 1, ft, vl, td, tn) Ks Lo Wi) rfl ?_
    refine v_iload_n F dX8_isMinus_27 1 rfl rfl ?_
    refine v_w (w' := wM ad G N Hs (co, len) Tw (mnQ co len (i, ft, vl, td, tn)) Ks Lo Wi) (congrArg (fun z_ => wM ad G N Hs (co, len) Tw z_ Ks Lo Wi) (show (i + 1, ft, vl, td, tn) = (mnQ co len (i, ft, vl, td, tn)) by simp [mnQ, h15])) ?_
    exact v_zret F hr hlk hQ (nar_b (atB co len i 45 45)) dX8_isMinus_28 (()) rfl (by first | rfl | simp [bI, nI_0, nI_one, *])
theorem cs_RX8_138 : CSS RX8 138 yX8_begins cX8_begins 3 (some .boolean) 3 := ⟨wC_yX8_begins, wM_RX8_138, wSt_yX8_begins, wI_RX8, by decide +kernel, by decide⟩
set_option maxHeartbeats 400000 in
set_option maxRecDepth 100000 in
theorem m_X8_isSmall (lau : Launch) (G : GT) (ad : Nat → Nat) (N : Nat → Int32) (Hs : HT) (co : Nat → Int32) (len : Nat) (Tw : Nat) (i : Nat) (ft : Bool) (vl : Nat) (td : Nat → Int32) (tn : Nat) (Ks : KS) (Lo Wi : Nat → Int32) (a b : Nat) (ha : a < 1000) (hb : b < 1000) (hi : i ≤ len) (hX : TXOK co len) : MI lau G 3 yX8_isSmall cX8_isSmall 3 (some .boolean) [.ref (ad 0), .int (nI a), .int (nI b)] (wM ad G N Hs (co, len) Tw (i, ft, vl, td, tn) Ks Lo Wi) (fun u : Unit => wM ad G N Hs (co, len) Tw (smQ co len a b (i, ft, vl, td, tn)) Ks Lo Wi) (fun r u => r = bI (smB co len a b i)) := by
  have hlen := hX.1
  have hcn := cN_lt co i
  refine mi_of (by decide +kernel) (Nat.le_of_ble_eq_true rfl) ?_
  intro p e s m args below meth c A Q F hr hlk hQ
  refine v_st (w' := wM ad G N Hs (co, len) Tw (i, ft, vl, td, tn) Ks Lo Wi) (pc' := 0) (st' := []) rfl rfl rfl [0, 1, 2] (lv' := [(0, .ref (ad 0)), (1, .int (nI a)), (2, .int (nI b))]) rfl ?_
  refine v_aload_n F dX8_isSmall_0 0 rfl rfl ?_
  refine v_bipush (v := nI 48) F dX8_isSmall_1 (by decide) ?_
  refine v_bipush (v := nI 57) F dX8_isSmall_3 (by decide) ?_
  refine v_cVIF F cs_RX8_131 dX8_isSmall_5 0 (ci := 8) rfl rfl (m_X8_isAt lau G ad N Hs co len Tw i ft vl td tn Ks Lo Wi 48 57 (by omega) (by omega) (by omega) hX) (by decide) rfl rfl (Nat.le_of_ble_eq_true rfl) ⟨Nat.zero_le _, Nat.zero_le _⟩ (fun r1 u2 w3 => ?_)
  subst w3
  refine v_if_eq F 31 dX8_isSmall_8 (by decide) (fun h8 => ?_) (fun h8 => ?_)
  · replace h8 := bI_f h8
    have hF := smF_1 (a := a) (b := b) h8
    refine v_aload_n F dX8_isSmall_31 0 rfl rfl ?_
    refine v_cVIF F cs_RX8_134 dX8_isSmall_32 0 (ci := 8) rfl rfl (m_X8_stops lau G ad N Hs co len Tw i ft vl td tn Ks Lo Wi (by omega) hX) (by decide) rfl rfl (Nat.le_of_ble_eq_true rfl) ⟨Nat.zero_le _, Nat.zero_le _⟩ (fun r4 u5 w6 => ?_)
    subst w6
    refine v_w (w' := wM ad G N Hs (co, len) Tw (smQ co len a b (i, ft, vl, td, tn)) Ks Lo Wi) (congrArg (fun z_ => wM ad G N Hs (co, len) Tw z_ Ks Lo Wi) (show (stQ len (i, ft, vl, td, tn)) = (smQ co len a b (i, ft, vl, td, tn)) by first | exact smQ_1 hF | (rw [hv2]; exact smQ_2 hF hG) | exact smQ_3 hF hG h153 | exact smQ_4 hF hG h153)) ?_
    exact v_zret F hr hlk hQ (nar_b false) dX8_isSmall_35 (()) rfl (by first | exact smB_1 hF | exact smB_2 hF hG | exact smB_3 hF hG h153 | exact smB_4 hF hG h153)
  · replace h8 := bI_t h8
    have h8b := atB_c h8
    refine v_aload_n F dX8_isSmall_11 0 rfl rfl ?_
    refine v_get (v := .ref (ad 3)) F inlX8 (ci := 8) rfl 3 (by decide) rfl wF_RX8_16 dX8_isSmall_12 0 rfl rfl ?_
    refine v_aload_n F dX8_isSmall_15 0 rfl rfl ?_
    refine v_get (v := .int (nI i)) F inlX8 (ci := 8) rfl 6 (by decide) rfl wF_RX8_125 dX8_isSmall_16 0 rfl rfl ?_
    refine v_ialdN F dX8_isSmall_19 3 rfl i rfl (by omega) (by decide) (co i) rfl ?_
    refine v_topi (nI (cN co i)) (cN_of hX (by omega)) ?_
    refine v_bipush (v := nI 48) F dX8_isSmall_20 (by decide) ?_
    refine v_isub F dX8_isSmall_22 ?_
    refine v_topi (nI (cN co i - 48)) (pk_sub (by omega)) ?_
    refine v_iload_n F dX8_isSmall_23 1 rfl rfl ?_
    refine v_iload_n F dX8_isSmall_24 2 rfl rfl ?_
    refine v_cSIE F cs_RX8_138 dX8_isSmall_25 (m_X8_begins lau G (cN co i - 48) a b (by omega) (by omega) (by omega)) (by decide) rfl rfl (Nat.le_of_ble_eq_true rfl) ⟨Nat.zero_le _, Nat.zero_le _⟩ (fun r7 u8 w9 => ?_)
    subst w9
    refine v_if_ne F 36 dX8_isSmall_28 (by decide) (fun c10 => ?_) (fun c10 => ?_)
    · replace c10 := bI_t c10
      have hF := smF_t h8 c10
      refine v_aload_n F dX8_isSmall_36 0 rfl rfl ?_
      refine v_aload_n F dX8_isSmall_37 0 rfl rfl ?_
      refine v_get (v := .ref (ad 3)) F inlX8 (ci := 8) rfl 3 (by decide) rfl wF_RX8_16 dX8_isSmall_38 0 rfl rfl ?_
      refine v_aload_n F dX8_isSmall_41 0 rfl rfl ?_
      refine v_get (v := .int (nI i)) F inlX8 (ci := 8) rfl 6 (by decide) rfl wF_RX8_125 dX8_isSmall_42 0 rfl rfl ?_
      refine v_ialdN F dX8_isSmall_45 3 rfl i rfl (by omega) (by decide) (co i) rfl ?_
      refine v_topi (nI (cN co i)) (cN_of hX (by omega)) ?_
      refine v_bipush (v := nI 48) F dX8_isSmall_46 (by decide) ?_
      refine v_isub F dX8_isSmall_48 ?_
      refine v_topi (nI (cN co i - 48)) (pk_sub (by omega)) ?_
      refine v_put F inlX8 (ci := 8) rfl tyX8 tyX8_ok nmX8 8 (by decide) rfl rfl wF_RX8_141 dX8_isSmall_49 (ty := .int) (by decide +kernel) rfl rfl 0 rfl (Nat.le_of_ble_eq_true rfl) (wM ad G N Hs (co, len) Tw (i, ft, cN co i - 48, td, tn) Ks Lo Wi) rfl ?_
      refine v_aload_n F dX8_isSmall_52 0 rfl rfl ?_
      refine v_dup F dX8_isSmall_53 rfl ?_
      refine v_get (v := .int (nI i)) F inlX8 (ci := 8) rfl 6 (by decide) rfl wF_RX8_125 dX8_isSmall_54 0 rfl rfl ?_
      refine v_iconst (v := nI 1) F dX8_isSmall_57 (by decide) ?_
      refine v_iadd F dX8_isSmall_58 ?_
      refine v_topi (nI (i + 1)) (nI_add i 1) ?_
      refine v_put F inlX8 (ci := 8) rfl tyX8 tyX8_ok nmX8 6 (by decide) rfl rfl wF_RX8_125 dX8_isSmall_59 (ty := .int) (by decide +kernel) rfl rfl 0 rfl (Nat.le_of_ble_eq_true rfl) (wM ad G N Hs (co, len) Tw (i + 1, ft, cN co i - 48, td, tn) Ks Lo Wi) rfl ?_
      refine v_aload_n F dX8_isSmall_62 0 rfl rfl ?_
      refine v_get (v := .int (nI (cN co i - 48))) F inlX8 (ci := 8) rfl 8 (by decide) rfl wF_RX8_141 dX8_isSmall_63 0 rfl rfl ?_
      refine v_if_le F 144 dX8_isSmall_66 (by decide) (fun h66 => ?_) (fun h66 => ?_)
      · replace h66 := nK (a := (cN co i - 48)) (b := 0) (by omega) (by decide) h66
        have hG := smG_1 (len := len) (a := a) (b := b) h66
        refine v_aload_n F dX8_isSmall_144 0 rfl rfl ?_
        refine v_get (v := .int (nI (cN co i - 48))) F inlX8 (ci := 8) rfl 8 (by decide) rfl wF_RX8_141 dX8_isSmall_145 0 rfl rfl ?_
        refine v_iload_n F dX8_isSmall_148 1 rfl rfl ?_
        refine v_iload_n F dX8_isSmall_149 2 rfl rfl ?_
        refine v_cSIE F cs_RX8_39 dX8_isSmall_150 (m_X8_in lau G (nI (cN co i - 48)) (nI a) (nI b) ) (by decide) rfl rfl (Nat.le_of_ble_eq_true rfl) ⟨Nat.zero_le _, Nat.zero_le _⟩ (fun r11 u12 w13 => ?_)
        subst w13
        refine v_topi (bI (inN (cN co i - 48) a b)) (congrArg bI (inB_N (by omega) (by omega) (by omega))) ?_
        refine v_if_ne F 163 dX8_isSmall_153 (by decide) (fun h153 => ?_) (fun h153 => ?_)
        · replace h153 := bI_t h153
          refine v_iconst (v := nI 1) F dX8_isSmall_163 (by decide) ?_
          refine v_goto F 168 dX8_isSmall_164 (by decide) ?_
          refine v_w (w' := wM ad G N Hs (co, len) Tw (smQ co len a b (i, ft, vl, td, tn)) Ks Lo Wi) (congrArg (fun z_ => wM ad G N Hs (co, len) Tw z_ Ks Lo Wi) (show (i + 1, ft, cN co i - 48, td, tn) = (smQ co len a b (i, ft, vl, td, tn)) by first | exact smQ_1 hF | (rw [hv2]; exact smQ_2 hF hG) | exact smQ_3 hF hG h153 | exact smQ_4 hF hG h153)) ?_
          exact v_zret F hr hlk hQ rfl dX8_isSmall_168 (()) rfl (by first | exact smB_1 hF | exact smB_2 hF hG | exact smB_3 hF hG h153 | exact smB_4 hF hG h153)
        · replace h153 := bI_f h153
          refine v_aload_n F dX8_isSmall_156 0 rfl rfl ?_
          refine v_cVIF F cs_RX8_134 dX8_isSmall_157 0 (ci := 8) rfl rfl (m_X8_stops lau G ad N Hs co len Tw (i + 1) ft (cN co i - 48) td tn Ks Lo Wi (by omega) hX) (by decide) rfl rfl (Nat.le_of_ble_eq_true rfl) ⟨Nat.zero_le _, Nat.zero_le _⟩ (fun r14 u15 w16 => ?_)
          subst w16
          refine v_if_eq F 167 dX8_isSmall_160 (by decide) (fun _ => ?_) (fun h => absurd h (by decide))
          refine v_iconst (v := nI 0) F dX8_isSmall_167 (by decide) ?_
          refine v_w (w' := wM ad G N Hs (co, len) Tw (smQ co len a b (i, ft, vl, td, tn)) Ks Lo Wi) (congrArg (fun z_ => wM ad G N Hs (co, len) Tw z_ Ks Lo Wi) (show (stQ len ((i + 1), ft, (cN co i - 48), td, tn)) = (smQ co len a b (i, ft, vl, td, tn)) by first | exact smQ_1 hF | (rw [hv2]; exact smQ_2 hF hG) | exact smQ_3 hF hG h153 | exact smQ_4 hF hG h153)) ?_
          exact v_zret F hr hlk hQ rfl dX8_isSmall_168 (()) rfl (by first | exact smB_1 hF | exact smB_2 hF hG | exact smB_3 hF hG h153 | exact smB_4 hF hG h153)
      · replace h66 := nKn (a := (cN co i - 48)) (b := 0) (by omega) (by decide) h66
        refine v_aload_n F dX8_isSmall_69 0 rfl rfl ?_
        refine v_bipush (v := nI 48) F dX8_isSmall_70 (by decide) ?_
        refine v_bipush (v := nI 57) F dX8_isSmall_72 (by decide) ?_
        refine v_cVIF F cs_RX8_131 dX8_isSmall_74 0 (ci := 8) rfl rfl (m_X8_isAt lau G ad N Hs co len Tw (i + 1) ft (cN co i - 48) td tn Ks Lo Wi 48 57 (by omega) (by omega) (by omega) hX) (by decide) rfl rfl (Nat.le_of_ble_eq_true rfl) ⟨Nat.zero_le _, Nat.zero_le _⟩ (fun r17 u18 w19 => ?_)
        subst w19
        refine v_if_eq F 144 dX8_isSmall_77 (by decide) (fun h77 => ?_) (fun h77 => ?_)
        · replace h77 := bI_f h77
          have hG := smG_2 (a := a) (b := b) h77
          refine v_aload_n F dX8_isSmall_144 0 rfl rfl ?_
          refine v_get (v := .int (nI (cN co i - 48))) F inlX8 (ci := 8) rfl 8 (by decide) rfl wF_RX8_141 dX8_isSmall_145 0 rfl rfl ?_
          refine v_iload_n F dX8_isSmall_148 1 rfl rfl ?_
          refine v_iload_n F dX8_isSmall_149 2 rfl rfl ?_
          refine v_cSIE F cs_RX8_39 dX8_isSmall_150 (m_X8_in lau G (nI (cN co i - 48)) (nI a) (nI b) ) (by decide) rfl rfl (Nat.le_of_ble_eq_true rfl) ⟨Nat.zero_le _, Nat.zero_le _⟩ (fun r20 u21 w22 => ?_)
          subst w22
          refine v_topi (bI (inN (cN co i - 48) a b)) (congrArg bI (inB_N (by omega) (by omega) (by omega))) ?_
          refine v_if_ne F 163 dX8_isSmall_153 (by decide) (fun h153 => ?_) (fun h153 => ?_)
          · replace h153 := bI_t h153
            refine v_iconst (v := nI 1) F dX8_isSmall_163 (by decide) ?_
            refine v_goto F 168 dX8_isSmall_164 (by decide) ?_
            refine v_w (w' := wM ad G N Hs (co, len) Tw (smQ co len a b (i, ft, vl, td, tn)) Ks Lo Wi) (congrArg (fun z_ => wM ad G N Hs (co, len) Tw z_ Ks Lo Wi) (show (i + 1, ft, cN co i - 48, td, tn) = (smQ co len a b (i, ft, vl, td, tn)) by first | exact smQ_1 hF | (rw [hv2]; exact smQ_2 hF hG) | exact smQ_3 hF hG h153 | exact smQ_4 hF hG h153)) ?_
            exact v_zret F hr hlk hQ rfl dX8_isSmall_168 (()) rfl (by first | exact smB_1 hF | exact smB_2 hF hG | exact smB_3 hF hG h153 | exact smB_4 hF hG h153)
          · replace h153 := bI_f h153
            refine v_aload_n F dX8_isSmall_156 0 rfl rfl ?_
            refine v_cVIF F cs_RX8_134 dX8_isSmall_157 0 (ci := 8) rfl rfl (m_X8_stops lau G ad N Hs co len Tw (i + 1) ft (cN co i - 48) td tn Ks Lo Wi (by omega) hX) (by decide) rfl rfl (Nat.le_of_ble_eq_true rfl) ⟨Nat.zero_le _, Nat.zero_le _⟩ (fun r23 u24 w25 => ?_)
            subst w25
            refine v_if_eq F 167 dX8_isSmall_160 (by decide) (fun _ => ?_) (fun h => absurd h (by decide))
            refine v_iconst (v := nI 0) F dX8_isSmall_167 (by decide) ?_
            refine v_w (w' := wM ad G N Hs (co, len) Tw (smQ co len a b (i, ft, vl, td, tn)) Ks Lo Wi) (congrArg (fun z_ => wM ad G N Hs (co, len) Tw z_ Ks Lo Wi) (show (stQ len ((i + 1), ft, (cN co i - 48), td, tn)) = (smQ co len a b (i, ft, vl, td, tn)) by first | exact smQ_1 hF | (rw [hv2]; exact smQ_2 hF hG) | exact smQ_3 hF hG h153 | exact smQ_4 hF hG h153)) ?_
            exact v_zret F hr hlk hQ rfl dX8_isSmall_168 (()) rfl (by first | exact smB_1 hF | exact smB_2 hF hG | exact smB_3 hF hG h153 | exact smB_4 hF hG h153)
        · replace h77 := bI_t h77
          have h77b := atB_c h77
          refine v_bipush (v := nI 10) F dX8_isSmall_80 (by decide) ?_
          refine v_aload_n F dX8_isSmall_82 0 rfl rfl ?_
          refine v_get (v := .int (nI (cN co i - 48))) F inlX8 (ci := 8) rfl 8 (by decide) rfl wF_RX8_141 dX8_isSmall_83 0 rfl rfl ?_
          refine v_imul F dX8_isSmall_86 ?_
          refine v_topi (nI (10 * (cN co i - 48))) (pk_mul 10 (cN co i - 48)) ?_
          refine v_aload_n F dX8_isSmall_87 0 rfl rfl ?_
          refine v_get (v := .ref (ad 3)) F inlX8 (ci := 8) rfl 3 (by decide) rfl wF_RX8_16 dX8_isSmall_88 0 rfl rfl ?_
          refine v_aload_n F dX8_isSmall_91 0 rfl rfl ?_
          refine v_get (v := .int (nI (i + 1))) F inlX8 (ci := 8) rfl 6 (by decide) rfl wF_RX8_125 dX8_isSmall_92 0 rfl rfl ?_
          refine v_ialdN F dX8_isSmall_95 3 rfl (i + 1) rfl (by omega) (by decide) (co (i + 1)) rfl ?_
          refine v_topi (nI (cN co (i + 1))) (cN_of hX (by omega)) ?_
          refine v_iadd F dX8_isSmall_96 ?_
          refine v_topi (nI ((10 * (cN co i - 48)) + (cN co (i + 1)))) (nI_add (10 * (cN co i - 48)) (cN co (i + 1))) ?_
          refine v_bipush (v := nI 48) F dX8_isSmall_97 (by decide) ?_
          refine v_isub F dX8_isSmall_99 ?_
          refine v_topi (nI (10 * (cN co i - 48) + cN co (i + 1) - 48)) (pk_sub (by omega)) ?_
          refine v_iload_n F dX8_isSmall_100 1 rfl rfl ?_
          refine v_iload_n F dX8_isSmall_101 2 rfl rfl ?_
          refine v_cSIE F cs_RX8_39 dX8_isSmall_102 (m_X8_in lau G (nI (10 * (cN co i - 48) + cN co (i + 1) - 48)) (nI a) (nI b) ) (by decide) rfl rfl (Nat.le_of_ble_eq_true rfl) ⟨Nat.zero_le _, Nat.zero_le _⟩ (fun r26 u27 w28 => ?_)
          subst w28
          refine v_topi (bI (inN (10 * (cN co i - 48) + cN co (i + 1) - 48) a b)) (congrArg bI (inB_N (by omega) (by omega) (by omega))) ?_
          refine v_if_eq F 144 dX8_isSmall_105 (by decide) (fun c29 => ?_) (fun c29 => ?_)
          · replace c29 := bI_f c29
            have hG := smG_3 (len := len) c29
            refine v_aload_n F dX8_isSmall_144 0 rfl rfl ?_
            refine v_get (v := .int (nI (cN co i - 48))) F inlX8 (ci := 8) rfl 8 (by decide) rfl wF_RX8_141 dX8_isSmall_145 0 rfl rfl ?_
            refine v_iload_n F dX8_isSmall_148 1 rfl rfl ?_
            refine v_iload_n F dX8_isSmall_149 2 rfl rfl ?_
            refine v_cSIE F cs_RX8_39 dX8_isSmall_150 (m_X8_in lau G (nI (cN co i - 48)) (nI a) (nI b) ) (by decide) rfl rfl (Nat.le_of_ble_eq_true rfl) ⟨Nat.zero_le _, Nat.zero_le _⟩ (fun r30 u31 w32 => ?_)
            subst w32
            refine v_topi (bI (inN (cN co i - 48) a b)) (congrArg bI (inB_N (by omega) (by omega) (by omega))) ?_
            refine v_if_ne F 163 dX8_isSmall_153 (by decide) (fun h153 => ?_) (fun h153 => ?_)
            · replace h153 := bI_t h153
              refine v_iconst (v := nI 1) F dX8_isSmall_163 (by decide) ?_
              refine v_goto F 168 dX8_isSmall_164 (by decide) ?_
              refine v_w (w' := wM ad G N Hs (co, len) Tw (smQ co len a b (i, ft, vl, td, tn)) Ks Lo Wi) (congrArg (fun z_ => wM ad G N Hs (co, len) Tw z_ Ks Lo Wi) (show (i + 1, ft, cN co i - 48, td, tn) = (smQ co len a b (i, ft, vl, td, tn)) by first | exact smQ_1 hF | (rw [hv2]; exact smQ_2 hF hG) | exact smQ_3 hF hG h153 | exact smQ_4 hF hG h153)) ?_
              exact v_zret F hr hlk hQ rfl dX8_isSmall_168 (()) rfl (by first | exact smB_1 hF | exact smB_2 hF hG | exact smB_3 hF hG h153 | exact smB_4 hF hG h153)
            · replace h153 := bI_f h153
              refine v_aload_n F dX8_isSmall_156 0 rfl rfl ?_
              refine v_cVIF F cs_RX8_134 dX8_isSmall_157 0 (ci := 8) rfl rfl (m_X8_stops lau G ad N Hs co len Tw (i + 1) ft (cN co i - 48) td tn Ks Lo Wi (by omega) hX) (by decide) rfl rfl (Nat.le_of_ble_eq_true rfl) ⟨Nat.zero_le _, Nat.zero_le _⟩ (fun r33 u34 w35 => ?_)
              subst w35
              refine v_if_eq F 167 dX8_isSmall_160 (by decide) (fun _ => ?_) (fun h => absurd h (by decide))
              refine v_iconst (v := nI 0) F dX8_isSmall_167 (by decide) ?_
              refine v_w (w' := wM ad G N Hs (co, len) Tw (smQ co len a b (i, ft, vl, td, tn)) Ks Lo Wi) (congrArg (fun z_ => wM ad G N Hs (co, len) Tw z_ Ks Lo Wi) (show (stQ len ((i + 1), ft, (cN co i - 48), td, tn)) = (smQ co len a b (i, ft, vl, td, tn)) by first | exact smQ_1 hF | (rw [hv2]; exact smQ_2 hF hG) | exact smQ_3 hF hG h153 | exact smQ_4 hF hG h153)) ?_
              exact v_zret F hr hlk hQ rfl dX8_isSmall_168 (()) rfl (by first | exact smB_1 hF | exact smB_2 hF hG | exact smB_3 hF hG h153 | exact smB_4 hF hG h153)
          · replace c29 := bI_t c29
            have hG := smG_t (by omega) h77 c29
            obtain ⟨v2, hv2⟩ : ∃ v2, v2 = 10 * (cN co i - 48) + cN co (i + 1) - 48 := ⟨_, rfl⟩
            refine v_aload_n F dX8_isSmall_108 0 rfl rfl ?_
            refine v_bipush (v := nI 10) F dX8_isSmall_109 (by decide) ?_
            refine v_aload_n F dX8_isSmall_111 0 rfl rfl ?_
            refine v_get (v := .int (nI (cN co i - 48))) F inlX8 (ci := 8) rfl 8 (by decide) rfl wF_RX8_141 dX8_isSmall_112 0 rfl rfl ?_
            refine v_imul F dX8_isSmall_115 ?_
            refine v_topi (nI (10 * (cN co i - 48))) (pk_mul 10 (cN co i - 48)) ?_
            refine v_aload_n F dX8_isSmall_116 0 rfl rfl ?_
            refine v_get (v := .ref (ad 3)) F inlX8 (ci := 8) rfl 3 (by decide) rfl wF_RX8_16 dX8_isSmall_117 0 rfl rfl ?_
            refine v_aload_n F dX8_isSmall_120 0 rfl rfl ?_
            refine v_get (v := .int (nI (i + 1))) F inlX8 (ci := 8) rfl 6 (by decide) rfl wF_RX8_125 dX8_isSmall_121 0 rfl rfl ?_
            refine v_ialdN F dX8_isSmall_124 3 rfl (i + 1) rfl (by omega) (by decide) (co (i + 1)) rfl ?_
            refine v_topi (nI (cN co (i + 1))) (cN_of hX (by omega)) ?_
            refine v_iadd F dX8_isSmall_125 ?_
            refine v_topi (nI ((10 * (cN co i - 48)) + (cN co (i + 1)))) (nI_add (10 * (cN co i - 48)) (cN co (i + 1))) ?_
            refine v_bipush (v := nI 48) F dX8_isSmall_126 (by decide) ?_
            refine v_isub F dX8_isSmall_128 ?_
            refine v_topi (nI v2) ((pk_sub (by omega)).trans (congrArg nI hv2.symm)) ?_
            refine v_put F inlX8 (ci := 8) rfl tyX8 tyX8_ok nmX8 8 (by decide) rfl rfl wF_RX8_141 dX8_isSmall_129 (ty := .int) (by decide +kernel) rfl rfl 0 rfl (Nat.le_of_ble_eq_true rfl) (wM ad G N Hs (co, len) Tw (i + 1, ft, v2, td, tn) Ks Lo Wi) rfl ?_
            refine v_aload_n F dX8_isSmall_132 0 rfl rfl ?_
            refine v_dup F dX8_isSmall_133 rfl ?_
            refine v_get (v := .int (nI (i + 1))) F inlX8 (ci := 8) rfl 6 (by decide) rfl wF_RX8_125 dX8_isSmall_134 0 rfl rfl ?_
            refine v_iconst (v := nI 1) F dX8_isSmall_137 (by decide) ?_
            refine v_iadd F dX8_isSmall_138 ?_
            refine v_topi (nI ((i + 1) + 1)) (nI_add (i + 1) 1) ?_
            refine v_put F inlX8 (ci := 8) rfl tyX8 tyX8_ok nmX8 6 (by decide) rfl rfl wF_RX8_125 dX8_isSmall_139 (ty := .int) (by decide +kernel) rfl rfl 0 rfl (Nat.le_of_ble_eq_true rfl) (wM ad G N Hs (co, len) Tw ((i + 1) + 1, ft, v2, td, tn) Ks Lo Wi) rfl ?_
            refine v_iconst (v := nI 1) F dX8_isSmall_142 (by decide) ?_
            refine v_w (w' := wM ad G N Hs (co, len) Tw (smQ co len a b (i, ft, vl, td, tn)) Ks Lo Wi) (congrArg (fun z_ => wM ad G N Hs (co, len) Tw z_ Ks Lo Wi) (show ((i + 1) + 1, ft, v2, td, tn) = (smQ co len a b (i, ft, vl, td, tn)) by first | exact smQ_1 hF | (rw [hv2]; exact smQ_2 hF hG) | exact smQ_3 hF hG h153 | exact smQ_4 hF hG h153)) ?_
            exact v_zret F hr hlk hQ rfl dX8_isSmall_143 (()) rfl (by first | exact smB_1 hF | exact smB_2 hF hG | exact smB_3 hF hG h153 | exact smB_4 hF hG h153)
    · replace c10 := bI_f c10
      have hF := smF_2 (len := len) c10
      refine v_aload_n F dX8_isSmall_31 0 rfl rfl ?_
      refine v_cVIF F cs_RX8_134 dX8_isSmall_32 0 (ci := 8) rfl rfl (m_X8_stops lau G ad N Hs co len Tw i ft vl td tn Ks Lo Wi (by omega) hX) (by decide) rfl rfl (Nat.le_of_ble_eq_true rfl) ⟨Nat.zero_le _, Nat.zero_le _⟩ (fun r36 u37 w38 => ?_)
      subst w38
      refine v_w (w' := wM ad G N Hs (co, len) Tw (smQ co len a b (i, ft, vl, td, tn)) Ks Lo Wi) (congrArg (fun z_ => wM ad G N Hs (co, len) Tw z_ Ks Lo Wi) (show (stQ len (i, ft, vl, td, tn)) = (smQ co len a b (i, ft, vl, td, tn)) by first | exact smQ_1 hF | (rw [hv2]; exact smQ_2 hF hG) | exact smQ_3 hF hG h153 | exact smQ_4 hF hG h153)) ?_
      exact v_zret F hr hlk hQ (nar_b false) dX8_isSmall_35 (()) rfl (by first | exact smB_1 hF | exact smB_2 hF hG | exact smB_3 hF hG h153 | exact smB_4 hF hG h153)
set_option maxHeartbeats 400000 in
set_option maxRecDepth 100000 in
theorem m_X8_isGreat (lau : Launch) (G : GT) (ad : Nat → Nat) (N : Nat → Int32) (Hs : HT) (co : Nat → Int32) (len : Nat) (Tw : Nat) (i : Nat) (ft : Bool) (vl : Nat) (td : Nat → Int32) (tn : Nat) (Ks : KS) (Lo Wi : Nat → Int32) (hi : i ≤ len) (hX : TXOK co len) : MI lau G 3 yX8_isGreat cX8_isGreat 1 (some .boolean) [.ref (ad 0)] (wM ad G N Hs (co, len) Tw (i, ft, vl, td, tn) Ks Lo Wi) (fun u : Unit => wM ad G N Hs (co, len) Tw (grQ co len (i, ft, vl, td, tn)) Ks Lo Wi) (fun r u => r = bI (atB co len i 48 57)) := by
  have hlen := hX.1
  have hcn := cN_lt co i
  refine mi_of (by decide +kernel) (Nat.le_of_ble_eq_true rfl) ?_
  intro p e s m args below meth c A Q F hr hlk hQ
  refine v_st (w' := wM ad G N Hs (co, len) Tw (i, ft, vl, td, tn) Ks Lo Wi) (pc' := 0) (st' := []) rfl rfl rfl [0] (lv' := [(0, .ref (ad 0))]) rfl ?_
  refine v_aload_n F dX8_isGreat_0 0 rfl rfl ?_
  refine v_bipush (v := nI 48) F dX8_isGreat_1 (by decide) ?_
  refine v_bipush (v := nI 57) F dX8_isGreat_3 (by decide) ?_
  refine v_cVIF F cs_RX8_131 dX8_isGreat_5 0 (ci := 8) rfl rfl (m_X8_isAt lau G ad N Hs co len Tw i ft vl td tn Ks Lo Wi 48 57 (by omega) (by omega) (by omega) hX) (by decide) rfl rfl (Nat.le_of_ble_eq_true rfl) ⟨Nat.zero_le _, Nat.zero_le _⟩ (fun r1 u2 w3 => ?_)
  subst w3
  refine v_if_ne F 16 dX8_isGreat_8 (by decide) (fun h8 => ?_) (fun h8 => ?_)
  · replace h8 := bI_t h8
    have h8b := atB_c h8
    refine v_aload_n F dX8_isGreat_16 0 rfl rfl ?_
    refine v_aload_n F dX8_isGreat_17 0 rfl rfl ?_
    refine v_get (v := .ref (ad 3)) F inlX8 (ci := 8) rfl 3 (by decide) rfl wF_RX8_16 dX8_isGreat_18 0 rfl rfl ?_
    refine v_aload_n F dX8_isGreat_21 0 rfl rfl ?_
    refine v_get (v := .int (nI i)) F inlX8 (ci := 8) rfl 6 (by decide) rfl wF_RX8_125 dX8_isGreat_22 0 rfl rfl ?_
    refine v_ialdN F dX8_isGreat_25 3 rfl i rfl (by omega) (by decide) (co i) rfl ?_
    refine v_topi (nI (cN co i)) (cN_of hX (by omega)) ?_
    refine v_bipush (v := nI 48) F dX8_isGreat_26 (by decide) ?_
    refine v_isub F dX8_isGreat_28 ?_
    refine v_topi (nI (cN co i - 48)) (pk_sub (by omega)) ?_
    refine v_put F inlX8 (ci := 8) rfl tyX8 tyX8_ok nmX8 8 (by decide) rfl rfl wF_RX8_141 dX8_isGreat_29 (ty := .int) (by decide +kernel) rfl rfl 0 rfl (Nat.le_of_ble_eq_true rfl) (wM ad G N Hs (co, len) Tw (i, ft, cN co i - 48, td, tn) Ks Lo Wi) rfl ?_
    refine v_aload_n F dX8_isGreat_32 0 rfl rfl ?_
    refine v_dup F dX8_isGreat_33 rfl ?_
    refine v_get (v := .int (nI i)) F inlX8 (ci := 8) rfl 6 (by decide) rfl wF_RX8_125 dX8_isGreat_34 0 rfl rfl ?_
    refine v_iconst (v := nI 1) F dX8_isGreat_37 (by decide) ?_
    refine v_iadd F dX8_isGreat_38 ?_
    refine v_topi (nI (i + 1)) (nI_add i 1) ?_
    refine v_put F inlX8 (ci := 8) rfl tyX8 tyX8_ok nmX8 6 (by decide) rfl rfl wF_RX8_125 dX8_isGreat_39 (ty := .int) (by decide +kernel) rfl rfl 0 rfl (Nat.le_of_ble_eq_true rfl) (wM ad G N Hs (co, len) Tw (i + 1, ft, cN co i - 48, td, tn) Ks Lo Wi) rfl ?_
    have L42 : ∀ (k_ : Nat) (f : Nat) (v : Nat) (j : Nat), f < k_ → (grL co len f v j = grL co len 4 (cN co i - 48) (i + 1)) → (v = 0 ∨ 1000 ≤ v * 10 ^ f) → (j ≤ len) → (v ≤ 9999) → V p lau e (RM 3) s m args below meth c 1 G A Q (wM ad G N Hs (co, len) Tw (j, ft, v, td, tn) Ks Lo Wi) 0 0 42 [(0, .ref (ad 0))] [] := by
      intro k_
      induction k_ with
      | zero => exact fun f v j hk_ hX4 hf hj hv => absurd hk_ (Nat.not_lt_zero _)
      | succ k_ ih42 =>
        intro f v j hk_42 hX4 hf hj hv
        refine v_aload_n F dX8_isGreat_42 0 rfl rfl ?_
        refine v_get (v := .int (nI v)) F inlX8 (ci := 8) rfl 8 (by decide) rfl wF_RX8_141 dX8_isGreat_43 0 rfl rfl ?_
        refine v_if_le F 107 dX8_isGreat_46 (by decide) (fun h46 => ?_) (fun h46 => ?_)
        · replace h46 := nK (a := v) (b := 0) (by omega) (by decide) h46
          refine v_iconst (v := nI 1) F dX8_isGreat_107 (by decide) ?_
          refine v_w (w' := wM ad G N Hs (co, len) Tw (grQ co len (i, ft, vl, td, tn)) Ks Lo Wi) (congrArg (fun z_ => wM ad G N Hs (co, len) Tw z_ Ks Lo Wi) (show (j, ft, v, td, tn) = (grQ co len (i, ft, vl, td, tn)) by first | exact grQ_0 h8 | exact grQ_1 h8 (hX4.symm.trans (gtx_0 (by omega) _)) | exact grQ_1 h8 (hX4.symm.trans (gtx_1 (by assumption) _)) | exact grQ_1 h8 (hX4.symm.trans (gtx_2 (by assumption) _)))) ?_
          exact v_zret F hr hlk hQ rfl dX8_isGreat_108 (()) rfl (by rw [h8] <;> rfl)
        · replace h46 := nKn (a := v) (b := 0) (by omega) (by decide) h46
          refine v_aload_n F dX8_isGreat_49 0 rfl rfl ?_
          refine v_get (v := .int (nI v)) F inlX8 (ci := 8) rfl 8 (by decide) rfl wF_RX8_141 dX8_isGreat_50 0 rfl rfl ?_
          refine v_sipush (v := nI 1000) F dX8_isGreat_53 (by decide) ?_
          refine v_icmp_ge F 107 dX8_isGreat_56 (by decide) (fun h56 => ?_) (fun h56 => ?_)
          · replace h56 := nG (a := v) (b := 1000) (by omega) (by decide) h56
            refine v_iconst (v := nI 1) F dX8_isGreat_107 (by decide) ?_
            refine v_w (w' := wM ad G N Hs (co, len) Tw (grQ co len (i, ft, vl, td, tn)) Ks Lo Wi) (congrArg (fun z_ => wM ad G N Hs (co, len) Tw z_ Ks Lo Wi) (show (j, ft, v, td, tn) = (grQ co len (i, ft, vl, td, tn)) by first | exact grQ_0 h8 | exact grQ_1 h8 (hX4.symm.trans (gtx_0 (by omega) _)) | exact grQ_1 h8 (hX4.symm.trans (gtx_1 (by assumption) _)) | exact grQ_1 h8 (hX4.symm.trans (gtx_2 (by assumption) _)))) ?_
            exact v_zret F hr hlk hQ rfl dX8_isGreat_108 (()) rfl (by rw [h8] <;> rfl)
          · replace h56 := nGn (a := v) (b := 1000) (by omega) (by decide) h56
            obtain ⟨f2, rfl⟩ := gtx_f hf (by omega) h56
            refine v_aload_n F dX8_isGreat_59 0 rfl rfl ?_
            refine v_bipush (v := nI 48) F dX8_isGreat_60 (by decide) ?_
            refine v_bipush (v := nI 57) F dX8_isGreat_62 (by decide) ?_
            refine v_cVIF F cs_RX8_131 dX8_isGreat_64 0 (ci := 8) rfl rfl (m_X8_isAt lau G ad N Hs co len Tw j ft v td tn Ks Lo Wi 48 57 (by omega) (by omega) (by omega) hX) (by decide) rfl rfl (Nat.le_of_ble_eq_true rfl) ⟨Nat.zero_le _, Nat.zero_le _⟩ (fun r4 u5 w6 => ?_)
            subst w6
            refine v_if_eq F 107 dX8_isGreat_67 (by decide) (fun h67 => ?_) (fun h67 => ?_)
            · replace h67 := bI_f h67
              refine v_iconst (v := nI 1) F dX8_isGreat_107 (by decide) ?_
              refine v_w (w' := wM ad G N Hs (co, len) Tw (grQ co len (i, ft, vl, td, tn)) Ks Lo Wi) (congrArg (fun z_ => wM ad G N Hs (co, len) Tw z_ Ks Lo Wi) (show (j, ft, v, td, tn) = (grQ co len (i, ft, vl, td, tn)) by first | exact grQ_0 h8 | exact grQ_1 h8 (hX4.symm.trans (gtx_0 (by omega) _)) | exact grQ_1 h8 (hX4.symm.trans (gtx_1 (by assumption) _)) | exact grQ_1 h8 (hX4.symm.trans (gtx_2 (by assumption) _)))) ?_
              exact v_zret F hr hlk hQ rfl dX8_isGreat_108 (()) rfl (by rw [h8] <;> rfl)
            · replace h67 := bI_t h67
              have h67b := atB_c h67
              obtain ⟨v2, hv2⟩ : ∃ v2, v2 = 10 * v + cN co j - 48 := ⟨_, rfl⟩
              refine v_aload_n F dX8_isGreat_70 0 rfl rfl ?_
              refine v_bipush (v := nI 10) F dX8_isGreat_71 (by decide) ?_
              refine v_aload_n F dX8_isGreat_73 0 rfl rfl ?_
              refine v_get (v := .int (nI v)) F inlX8 (ci := 8) rfl 8 (by decide) rfl wF_RX8_141 dX8_isGreat_74 0 rfl rfl ?_
              refine v_imul F dX8_isGreat_77 ?_
              refine v_topi (nI (10 * v)) (pk_mul 10 v) ?_
              refine v_aload_n F dX8_isGreat_78 0 rfl rfl ?_
              refine v_get (v := .ref (ad 3)) F inlX8 (ci := 8) rfl 3 (by decide) rfl wF_RX8_16 dX8_isGreat_79 0 rfl rfl ?_
              refine v_aload_n F dX8_isGreat_82 0 rfl rfl ?_
              refine v_get (v := .int (nI j)) F inlX8 (ci := 8) rfl 6 (by decide) rfl wF_RX8_125 dX8_isGreat_83 0 rfl rfl ?_
              refine v_ialdN F dX8_isGreat_86 3 rfl j rfl (by omega) (by decide) (co j) rfl ?_
              refine v_topi (nI (cN co j)) (cN_of hX (by omega)) ?_
              refine v_iadd F dX8_isGreat_87 ?_
              refine v_topi (nI ((10 * v) + (cN co j))) (nI_add (10 * v) (cN co j)) ?_
              refine v_bipush (v := nI 48) F dX8_isGreat_88 (by decide) ?_
              refine v_isub F dX8_isGreat_90 ?_
              refine v_topi (nI v2) ((pk_sub (by omega)).trans (congrArg nI hv2.symm)) ?_
              refine v_put F inlX8 (ci := 8) rfl tyX8 tyX8_ok nmX8 8 (by decide) rfl rfl wF_RX8_141 dX8_isGreat_91 (ty := .int) (by decide +kernel) rfl rfl 0 rfl (Nat.le_of_ble_eq_true rfl) (wM ad G N Hs (co, len) Tw (j, ft, v2, td, tn) Ks Lo Wi) rfl ?_
              refine v_aload_n F dX8_isGreat_94 0 rfl rfl ?_
              refine v_dup F dX8_isGreat_95 rfl ?_
              refine v_get (v := .int (nI j)) F inlX8 (ci := 8) rfl 6 (by decide) rfl wF_RX8_125 dX8_isGreat_96 0 rfl rfl ?_
              refine v_iconst (v := nI 1) F dX8_isGreat_99 (by decide) ?_
              refine v_iadd F dX8_isGreat_100 ?_
              refine v_topi (nI (j + 1)) (nI_add j 1) ?_
              refine v_put F inlX8 (ci := 8) rfl tyX8 tyX8_ok nmX8 6 (by decide) rfl rfl wF_RX8_125 dX8_isGreat_101 (ty := .int) (by decide +kernel) rfl rfl 0 rfl (Nat.le_of_ble_eq_true rfl) (wM ad G N Hs (co, len) Tw (j + 1, ft, v2, td, tn) Ks Lo Wi) rfl ?_
              refine v_goto F 42 dX8_isGreat_104 (by decide) ?_
              refine v_st (w' := wM ad G N Hs (co, len) Tw (j + 1, ft, v2, td, tn) Ks Lo Wi) (pc' := 42) (st' := []) rfl rfl rfl [0] (lv' := [(0, .ref (ad 0))]) rfl ?_
              exact ih42 f2 v2 (j + 1) (by omega) (by rw [← hX4, gtx_s (by omega) (by omega) h67, hv2]) (by rw [hv2]; exact gtx_n hf (by omega) (by omega)) (by omega) (by omega)
    refine v_st (w' := wM ad G N Hs (co, len) Tw (i + 1, ft, cN co i - 48, td, tn) Ks Lo Wi) (pc' := 42) (st' := []) rfl rfl rfl [0] (lv' := [(0, .ref (ad 0))]) rfl ?_
    exact L42 _ 4 (cN co i - 48) (i + 1) (Nat.lt_succ_self _) (rfl) (gtx_4 _) (by omega) (by omega)
  · replace h8 := bI_f h8
    refine v_aload_n F dX8_isGreat_11 0 rfl rfl ?_
    refine v_cVIF F cs_RX8_134 dX8_isGreat_12 0 (ci := 8) rfl rfl (m_X8_stops lau G ad N Hs co len Tw i ft vl td tn Ks Lo Wi (by omega) hX) (by decide) rfl rfl (Nat.le_of_ble_eq_true rfl) ⟨Nat.zero_le _, Nat.zero_le _⟩ (fun r7 u8 w9 => ?_)
    subst w9
    refine v_w (w' := wM ad G N Hs (co, len) Tw (grQ co len (i, ft, vl, td, tn)) Ks Lo Wi) (congrArg (fun z_ => wM ad G N Hs (co, len) Tw z_ Ks Lo Wi) (show (stQ len (i, ft, vl, td, tn)) = (grQ co len (i, ft, vl, td, tn)) by first | exact grQ_0 h8 | exact grQ_1 h8 (hX4.symm.trans (gtx_0 (by omega) _)) | exact grQ_1 h8 (hX4.symm.trans (gtx_1 (by assumption) _)) | exact grQ_1 h8 (hX4.symm.trans (gtx_2 (by assumption) _)))) ?_
    exact v_zret F hr hlk hQ (nar_b false) dX8_isGreat_15 (()) rfl (by rw [h8] <;> rfl)
