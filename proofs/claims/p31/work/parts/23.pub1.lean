set_option maxHeartbeats 4000000 in
set_option maxRecDepth 100000 in
theorem m_X7_isSlope (lau : Launch) (G : GT) (x : Int32) : MI lau G 0 yX7_isSlope cX7_isSlope 1 (some .boolean) [.int x] ([]) (fun u : Unit => []) (fun r u => r = bI (slB x)) := by
  refine mi_of (by decide +kernel) (Nat.le_of_ble_eq_true rfl) ?_
  intro p e s m args below meth c A Q F hr hlk hQ
  refine v_st (w' := []) (pc' := 0) (st' := []) rfl rfl rfl [0] (lv' := [(0, .int x)]) rfl ?_
  refine v_iload_n F dX7_isSlope_0 0 rfl rfl ?_
  refine v_bipush (v := (-99)) F dX7_isSlope_1 (by decide) ?_
  refine v_icmp_lt F 16 dX7_isSlope_3 (by decide) (fun c1 => ?_) (fun c1 => ?_)
  · refine v_iconst (v := nI 0) F dX7_isSlope_16 (by decide) ?_
    exact v_zret F hr hlk hQ rfl dX7_isSlope_17 (()) rfl (by simp [slB, inB, bI, nI_one, *]; try rfl)
  · refine v_iload_n F dX7_isSlope_6 0 rfl rfl ?_
    refine v_bipush (v := nI 99) F dX7_isSlope_7 (by decide) ?_
    refine v_icmp_gt F 16 dX7_isSlope_9 (by decide) (fun c2 => ?_) (fun c2 => ?_)
    · refine v_iconst (v := nI 0) F dX7_isSlope_16 (by decide) ?_
      exact v_zret F hr hlk hQ rfl dX7_isSlope_17 (()) rfl (by simp [slB, inB, bI, nI_one, *]; try rfl)
    · refine v_iconst (v := nI 1) F dX7_isSlope_12 (by decide) ?_
      refine v_goto F 17 dX7_isSlope_13 (by decide) ?_
      exact v_zret F hr hlk hQ rfl dX7_isSlope_17 (()) rfl (by simp [slB, inB, bI, nI_one, *]; try rfl)
set_option maxHeartbeats 4000000 in
set_option maxRecDepth 100000 in
theorem m_X7_isOffset (lau : Launch) (G : GT) (x : Int32) : MI lau G 0 yX7_isOffset cX7_isOffset 1 (some .boolean) [.int x] ([]) (fun u : Unit => []) (fun r u => r = bI (ofB x)) := by
  refine mi_of (by decide +kernel) (Nat.le_of_ble_eq_true rfl) ?_
  intro p e s m args below meth c A Q F hr hlk hQ
  refine v_st (w' := []) (pc' := 0) (st' := []) rfl rfl rfl [0] (lv' := [(0, .int x)]) rfl ?_
  refine v_iload_n F dX7_isOffset_0 0 rfl rfl ?_
  refine v_sipush (v := (-9999)) F dX7_isOffset_1 (by decide) ?_
  refine v_icmp_lt F 18 dX7_isOffset_4 (by decide) (fun c1 => ?_) (fun c1 => ?_)
  · refine v_iconst (v := nI 0) F dX7_isOffset_18 (by decide) ?_
    exact v_zret F hr hlk hQ rfl dX7_isOffset_19 (()) rfl (by simp [ofB, inB, bI, nI_one, *]; try rfl)
  · refine v_iload_n F dX7_isOffset_7 0 rfl rfl ?_
    refine v_sipush (v := nI 9999) F dX7_isOffset_8 (by decide) ?_
    refine v_icmp_gt F 18 dX7_isOffset_11 (by decide) (fun c2 => ?_) (fun c2 => ?_)
    · refine v_iconst (v := nI 0) F dX7_isOffset_18 (by decide) ?_
      exact v_zret F hr hlk hQ rfl dX7_isOffset_19 (()) rfl (by simp [ofB, inB, bI, nI_one, *]; try rfl)
    · refine v_iconst (v := nI 1) F dX7_isOffset_14 (by decide) ?_
      refine v_goto F 19 dX7_isOffset_15 (by decide) ?_
      exact v_zret F hr hlk hQ rfl dX7_isOffset_19 (()) rfl (by simp [ofB, inB, bI, nI_one, *]; try rfl)
set_option maxHeartbeats 4000000 in
set_option maxRecDepth 100000 in
theorem m_X7_isPlace (lau : Launch) (G : GT) (x : Int32) : MI lau G 0 yX7_isPlace cX7_isPlace 1 (some .boolean) [.int x] ([]) (fun u : Unit => []) (fun r u => r = bI (plB x)) := by
  refine mi_of (by decide +kernel) (Nat.le_of_ble_eq_true rfl) ?_
  intro p e s m args below meth c A Q F hr hlk hQ
  refine v_st (w' := []) (pc' := 0) (st' := []) rfl rfl rfl [0] (lv' := [(0, .int x)]) rfl ?_
  refine v_iload_n F dX7_isPlace_0 0 rfl rfl ?_
  refine v_if_lt F 14 dX7_isPlace_1 (by decide) (fun c1 => ?_) (fun c1 => ?_)
  · refine v_iconst (v := nI 0) F dX7_isPlace_14 (by decide) ?_
    exact v_zret F hr hlk hQ rfl dX7_isPlace_15 (()) rfl (by first | exact plB_1 (by assumption) (by assumption) | exact plB_2 (by assumption) | exact plB_3 (by assumption))
  · refine v_iload_n F dX7_isPlace_4 0 rfl rfl ?_
    refine v_bipush (v := nI 64) F dX7_isPlace_5 (by decide) ?_
    refine v_icmp_ge F 14 dX7_isPlace_7 (by decide) (fun c2 => ?_) (fun c2 => ?_)
    · refine v_iconst (v := nI 0) F dX7_isPlace_14 (by decide) ?_
      exact v_zret F hr hlk hQ rfl dX7_isPlace_15 (()) rfl (by first | exact plB_1 (by assumption) (by assumption) | exact plB_2 (by assumption) | exact plB_3 (by assumption))
    · refine v_iconst (v := nI 1) F dX7_isPlace_10 (by decide) ?_
      refine v_goto F 15 dX7_isPlace_11 (by decide) ?_
      exact v_zret F hr hlk hQ rfl dX7_isPlace_15 (()) rfl (by first | exact plB_1 (by assumption) (by assumption) | exact plB_2 (by assumption) | exact plB_3 (by assumption))
set_option maxHeartbeats 4000000 in
set_option maxRecDepth 100000 in
theorem m_X7_isMoment (lau : Launch) (G : GT) (x : Int32) : MI lau G 0 yX7_isMoment cX7_isMoment 1 (some .boolean) [.int x] ([]) (fun u : Unit => []) (fun r u => r = bI (moB x)) := by
  refine mi_of (by decide +kernel) (Nat.le_of_ble_eq_true rfl) ?_
  intro p e s m args below meth c A Q F hr hlk hQ
  refine v_st (w' := []) (pc' := 0) (st' := []) rfl rfl rfl [0] (lv' := [(0, .int x)]) rfl ?_
  refine v_iload_n F dX7_isMoment_0 0 rfl rfl ?_
  refine v_if_lt F 14 dX7_isMoment_1 (by decide) (fun c1 => ?_) (fun c1 => ?_)
  · refine v_iconst (v := nI 0) F dX7_isMoment_14 (by decide) ?_
    exact v_zret F hr hlk hQ rfl dX7_isMoment_15 (()) rfl (by first | exact moB_1 (by assumption) (by assumption) | exact moB_2 (by assumption) | exact moB_3 (by assumption))
  · refine v_iload_n F dX7_isMoment_4 0 rfl rfl ?_
    refine v_bipush (v := nI 100) F dX7_isMoment_5 (by decide) ?_
    refine v_icmp_ge F 14 dX7_isMoment_7 (by decide) (fun c2 => ?_) (fun c2 => ?_)
    · refine v_iconst (v := nI 0) F dX7_isMoment_14 (by decide) ?_
      exact v_zret F hr hlk hQ rfl dX7_isMoment_15 (()) rfl (by first | exact moB_1 (by assumption) (by assumption) | exact moB_2 (by assumption) | exact moB_3 (by assumption))
    · refine v_iconst (v := nI 1) F dX7_isMoment_10 (by decide) ?_
      refine v_goto F 15 dX7_isMoment_11 (by decide) ?_
      exact v_zret F hr hlk hQ rfl dX7_isMoment_15 (()) rfl (by first | exact moB_1 (by assumption) (by assumption) | exact moB_2 (by assumption) | exact moB_3 (by assumption))
set_option maxHeartbeats 4000000 in
set_option maxRecDepth 100000 in
theorem m_X7_isStretch (lau : Launch) (G : GT) (f q k : Int32) : MI lau G 0 yX7_isStretch cX7_isStretch 3 (some .boolean) [.int f, .int q, .int k] ([]) (fun u : Unit => []) (fun r u => r = bI (stB f q k)) := by
  refine mi_of (by decide +kernel) (Nat.le_of_ble_eq_true rfl) ?_
  intro p e s m args below meth c A Q F hr hlk hQ
  refine v_st (w' := []) (pc' := 0) (st' := []) rfl rfl rfl [0, 1, 2] (lv' := [(0, .int f), (1, .int q), (2, .int k)]) rfl ?_
  refine v_iload_n F dX7_isStretch_0 0 rfl rfl ?_
  refine v_if_lt F 18 dX7_isStretch_1 (by decide) (fun c1 => ?_) (fun c1 => ?_)
  · refine v_iconst (v := nI 0) F dX7_isStretch_18 (by decide) ?_
    exact v_zret F hr hlk hQ rfl dX7_isStretch_19 (()) rfl (by simp [stB, bI, nI_one, *]; try rfl)
  · refine v_iload_n F dX7_isStretch_4 0 rfl rfl ?_
    refine v_iload_n F dX7_isStretch_5 1 rfl rfl ?_
    refine v_icmp_gt F 18 dX7_isStretch_6 (by decide) (fun c2 => ?_) (fun c2 => ?_)
    · refine v_iconst (v := nI 0) F dX7_isStretch_18 (by decide) ?_
      exact v_zret F hr hlk hQ rfl dX7_isStretch_19 (()) rfl (by simp [stB, bI, nI_one, *]; try rfl)
    · refine v_iload_n F dX7_isStretch_9 1 rfl rfl ?_
      refine v_iload_n F dX7_isStretch_10 2 rfl rfl ?_
      refine v_icmp_ge F 18 dX7_isStretch_11 (by decide) (fun c3 => ?_) (fun c3 => ?_)
      · refine v_iconst (v := nI 0) F dX7_isStretch_18 (by decide) ?_
        exact v_zret F hr hlk hQ rfl dX7_isStretch_19 (()) rfl (by simp [stB, bI, nI_one, *]; try rfl)
      · refine v_iconst (v := nI 1) F dX7_isStretch_14 (by decide) ?_
        refine v_goto F 19 dX7_isStretch_15 (by decide) ?_
        exact v_zret F hr hlk hQ rfl dX7_isStretch_19 (()) rfl (by simp [stB, bI, nI_one, *]; try rfl)
set_option maxHeartbeats 4000000 in
set_option maxRecDepth 100000 in
theorem m_J6_bitCount_0f7a4 (lau : Launch) (G : GT) (i : Int32) : MI lau G 0 yJ6_bitCount_0f7a4 cJ6_bitCount_0f7a4 1 (some .int) [.int i] ([]) (fun u : Unit => []) (fun r u => r = (bcI i)) := by
  refine mi_of (by decide +kernel) (Nat.le_of_ble_eq_true rfl) ?_
  intro p e s m args below meth c A Q F hr hlk hQ
  refine v_st (w' := []) (pc' := 0) (st' := []) rfl rfl rfl [0] (lv' := [(0, .int i)]) rfl ?_
  refine v_iload_n F dJ6_bitCount_0f7a4_0 0 rfl rfl ?_
  refine v_iload_n F dJ6_bitCount_0f7a4_1 0 rfl rfl ?_
  refine v_iconst (v := nI 1) F dJ6_bitCount_0f7a4_2 (by decide) ?_
  refine v_iushr (v := ((i).toUInt32 >>> ((nI 1).toUInt32 &&& Int32.toUInt32 31)).toInt32) F dJ6_bitCount_0f7a4_3 rfl ?_
  refine v_ldcw (v := (1431655765)) F wK_RJ6_265 dJ6_bitCount_0f7a4_4 ?_
  refine v_iand F dJ6_bitCount_0f7a4_7 ?_
  refine v_isub F dJ6_bitCount_0f7a4_8 ?_
  refine v_istore_n (lv' := [(0, .int (i - ((((i).toUInt32 >>> ((nI 1).toUInt32 &&& Int32.toUInt32 31)).toInt32) &&& (1431655765))))]) F dJ6_bitCount_0f7a4_9 0 rfl (by decide) rfl ?_
  refine v_iload_n F dJ6_bitCount_0f7a4_10 0 rfl rfl ?_
  refine v_ldcw (v := (858993459)) F wK_RJ6_266 dJ6_bitCount_0f7a4_11 ?_
  refine v_iand F dJ6_bitCount_0f7a4_14 ?_
  refine v_iload_n F dJ6_bitCount_0f7a4_15 0 rfl rfl ?_
  refine v_iconst (v := nI 2) F dJ6_bitCount_0f7a4_16 (by decide) ?_
  refine v_iushr (v := (((i - ((((i).toUInt32 >>> ((nI 1).toUInt32 &&& Int32.toUInt32 31)).toInt32) &&& (1431655765)))).toUInt32 >>> ((nI 2).toUInt32 &&& Int32.toUInt32 31)).toInt32) F dJ6_bitCount_0f7a4_17 rfl ?_
  refine v_ldcw (v := (858993459)) F wK_RJ6_266 dJ6_bitCount_0f7a4_18 ?_
  refine v_iand F dJ6_bitCount_0f7a4_21 ?_
  refine v_iadd F dJ6_bitCount_0f7a4_22 ?_
  refine v_istore_n (lv' := [(0, .int (((i - ((((i).toUInt32 >>> ((nI 1).toUInt32 &&& Int32.toUInt32 31)).toInt32) &&& (1431655765))) &&& (858993459)) + (((((i - ((((i).toUInt32 >>> ((nI 1).toUInt32 &&& Int32.toUInt32 31)).toInt32) &&& (1431655765)))).toUInt32 >>> ((nI 2).toUInt32 &&& Int32.toUInt32 31)).toInt32) &&& (858993459))))]) F dJ6_bitCount_0f7a4_23 0 rfl (by decide) rfl ?_
  refine v_iload_n F dJ6_bitCount_0f7a4_24 0 rfl rfl ?_
  refine v_iload_n F dJ6_bitCount_0f7a4_25 0 rfl rfl ?_
  refine v_iconst (v := nI 4) F dJ6_bitCount_0f7a4_26 (by decide) ?_
  refine v_iushr (v := (((((i - ((((i).toUInt32 >>> ((nI 1).toUInt32 &&& Int32.toUInt32 31)).toInt32) &&& (1431655765))) &&& (858993459)) + (((((i - ((((i).toUInt32 >>> ((nI 1).toUInt32 &&& Int32.toUInt32 31)).toInt32) &&& (1431655765)))).toUInt32 >>> ((nI 2).toUInt32 &&& Int32.toUInt32 31)).toInt32) &&& (858993459)))).toUInt32 >>> ((nI 4).toUInt32 &&& Int32.toUInt32 31)).toInt32) F dJ6_bitCount_0f7a4_27 rfl ?_
  refine v_iadd F dJ6_bitCount_0f7a4_28 ?_
  refine v_ldcw (v := (252645135)) F wK_RJ6_267 dJ6_bitCount_0f7a4_29 ?_
  refine v_iand F dJ6_bitCount_0f7a4_32 ?_
  refine v_istore_n (lv' := [(0, .int (((((i - ((((i).toUInt32 >>> ((nI 1).toUInt32 &&& Int32.toUInt32 31)).toInt32) &&& (1431655765))) &&& (858993459)) + (((((i - ((((i).toUInt32 >>> ((nI 1).toUInt32 &&& Int32.toUInt32 31)).toInt32) &&& (1431655765)))).toUInt32 >>> ((nI 2).toUInt32 &&& Int32.toUInt32 31)).toInt32) &&& (858993459))) + ((((((i - ((((i).toUInt32 >>> ((nI 1).toUInt32 &&& Int32.toUInt32 31)).toInt32) &&& (1431655765))) &&& (858993459)) + (((((i - ((((i).toUInt32 >>> ((nI 1).toUInt32 &&& Int32.toUInt32 31)).toInt32) &&& (1431655765)))).toUInt32 >>> ((nI 2).toUInt32 &&& Int32.toUInt32 31)).toInt32) &&& (858993459)))).toUInt32 >>> ((nI 4).toUInt32 &&& Int32.toUInt32 31)).toInt32)) &&& (252645135)))]) F dJ6_bitCount_0f7a4_33 0 rfl (by decide) rfl ?_
  refine v_iload_n F dJ6_bitCount_0f7a4_34 0 rfl rfl ?_
  refine v_iload_n F dJ6_bitCount_0f7a4_35 0 rfl rfl ?_
  refine v_bipush (v := nI 8) F dJ6_bitCount_0f7a4_36 (by decide) ?_
  refine v_iushr (v := (((((((i - ((((i).toUInt32 >>> ((nI 1).toUInt32 &&& Int32.toUInt32 31)).toInt32) &&& (1431655765))) &&& (858993459)) + (((((i - ((((i).toUInt32 >>> ((nI 1).toUInt32 &&& Int32.toUInt32 31)).toInt32) &&& (1431655765)))).toUInt32 >>> ((nI 2).toUInt32 &&& Int32.toUInt32 31)).toInt32) &&& (858993459))) + ((((((i - ((((i).toUInt32 >>> ((nI 1).toUInt32 &&& Int32.toUInt32 31)).toInt32) &&& (1431655765))) &&& (858993459)) + (((((i - ((((i).toUInt32 >>> ((nI 1).toUInt32 &&& Int32.toUInt32 31)).toInt32) &&& (1431655765)))).toUInt32 >>> ((nI 2).toUInt32 &&& Int32.toUInt32 31)).toInt32) &&& (858993459)))).toUInt32 >>> ((nI 4).toUInt32 &&& Int32.toUInt32 31)).toInt32)) &&& (252645135))).toUInt32 >>> ((nI 8).toUInt32 &&& Int32.toUInt32 31)).toInt32) F dJ6_bitCount_0f7a4_38 rfl ?_
  refine v_iadd F dJ6_bitCount_0f7a4_39 ?_
  refine v_istore_n (lv' := [(0, .int ((((((i - ((((i).toUInt32 >>> ((nI 1).toUInt32 &&& Int32.toUInt32 31)).toInt32) &&& (1431655765))) &&& (858993459)) + (((((i - ((((i).toUInt32 >>> ((nI 1).toUInt32 &&& Int32.toUInt32 31)).toInt32) &&& (1431655765)))).toUInt32 >>> ((nI 2).toUInt32 &&& Int32.toUInt32 31)).toInt32) &&& (858993459))) + ((((((i - ((((i).toUInt32 >>> ((nI 1).toUInt32 &&& Int32.toUInt32 31)).toInt32) &&& (1431655765))) &&& (858993459)) + (((((i - ((((i).toUInt32 >>> ((nI 1).toUInt32 &&& Int32.toUInt32 31)).toInt32) &&& (1431655765)))).toUInt32 >>> ((nI 2).toUInt32 &&& Int32.toUInt32 31)).toInt32) &&& (858993459)))).toUInt32 >>> ((nI 4).toUInt32 &&& Int32.toUInt32 31)).toInt32)) &&& (252645135)) + ((((((((i - ((((i).toUInt32 >>> ((nI 1).toUInt32 &&& Int32.toUInt32 31)).toInt32) &&& (1431655765))) &&& (858993459)) + (((((i - ((((i).toUInt32 >>> ((nI 1).toUInt32 &&& Int32.toUInt32 31)).toInt32) &&& (1431655765)))).toUInt32 >>> ((nI 2).toUInt32 &&& Int32.toUInt32 31)).toInt32) &&& (858993459))) + ((((((i - ((((i).toUInt32 >>> ((nI 1).toUInt32 &&& Int32.toUInt32 31)).toInt32) &&& (1431655765))) &&& (858993459)) + (((((i - ((((i).toUInt32 >>> ((nI 1).toUInt32 &&& Int32.toUInt32 31)).toInt32) &&& (1431655765)))).toUInt32 >>> ((nI 2).toUInt32 &&& Int32.toUInt32 31)).toInt32) &&& (858993459)))).toUInt32 >>> ((nI 4).toUInt32 &&& Int32.toUInt32 31)).toInt32)) &&& (252645135))).toUInt32 >>> ((nI 8).toUInt32 &&& Int32.toUInt32 31)).toInt32)))]) F dJ6_bitCount_0f7a4_40 0 rfl (by decide) rfl ?_
  refine v_iload_n F dJ6_bitCount_0f7a4_41 0 rfl rfl ?_
  refine v_iload_n F dJ6_bitCount_0f7a4_42 0 rfl rfl ?_
  refine v_bipush (v := nI 16) F dJ6_bitCount_0f7a4_43 (by decide) ?_
  refine v_iushr (v := ((((((((i - ((((i).toUInt32 >>> ((nI 1).toUInt32 &&& Int32.toUInt32 31)).toInt32) &&& (1431655765))) &&& (858993459)) + (((((i - ((((i).toUInt32 >>> ((nI 1).toUInt32 &&& Int32.toUInt32 31)).toInt32) &&& (1431655765)))).toUInt32 >>> ((nI 2).toUInt32 &&& Int32.toUInt32 31)).toInt32) &&& (858993459))) + ((((((i - ((((i).toUInt32 >>> ((nI 1).toUInt32 &&& Int32.toUInt32 31)).toInt32) &&& (1431655765))) &&& (858993459)) + (((((i - ((((i).toUInt32 >>> ((nI 1).toUInt32 &&& Int32.toUInt32 31)).toInt32) &&& (1431655765)))).toUInt32 >>> ((nI 2).toUInt32 &&& Int32.toUInt32 31)).toInt32) &&& (858993459)))).toUInt32 >>> ((nI 4).toUInt32 &&& Int32.toUInt32 31)).toInt32)) &&& (252645135)) + ((((((((i - ((((i).toUInt32 >>> ((nI 1).toUInt32 &&& Int32.toUInt32 31)).toInt32) &&& (1431655765))) &&& (858993459)) + (((((i - ((((i).toUInt32 >>> ((nI 1).toUInt32 &&& Int32.toUInt32 31)).toInt32) &&& (1431655765)))).toUInt32 >>> ((nI 2).toUInt32 &&& Int32.toUInt32 31)).toInt32) &&& (858993459))) + ((((((i - ((((i).toUInt32 >>> ((nI 1).toUInt32 &&& Int32.toUInt32 31)).toInt32) &&& (1431655765))) &&& (858993459)) + (((((i - ((((i).toUInt32 >>> ((nI 1).toUInt32 &&& Int32.toUInt32 31)).toInt32) &&& (1431655765)))).toUInt32 >>> ((nI 2).toUInt32 &&& Int32.toUInt32 31)).toInt32) &&& (858993459)))).toUInt32 >>> ((nI 4).toUInt32 &&& Int32.toUInt32 31)).toInt32)) &&& (252645135))).toUInt32 >>> ((nI 8).toUInt32 &&& Int32.toUInt32 31)).toInt32))).toUInt32 >>> ((nI 16).toUInt32 &&& Int32.toUInt32 31)).toInt32) F dJ6_bitCount_0f7a4_45 rfl ?_
  refine v_iadd F dJ6_bitCount_0f7a4_46 ?_
  refine v_istore_n (lv' := [(0, .int (((((((i - ((((i).toUInt32 >>> ((nI 1).toUInt32 &&& Int32.toUInt32 31)).toInt32) &&& (1431655765))) &&& (858993459)) + (((((i - ((((i).toUInt32 >>> ((nI 1).toUInt32 &&& Int32.toUInt32 31)).toInt32) &&& (1431655765)))).toUInt32 >>> ((nI 2).toUInt32 &&& Int32.toUInt32 31)).toInt32) &&& (858993459))) + ((((((i - ((((i).toUInt32 >>> ((nI 1).toUInt32 &&& Int32.toUInt32 31)).toInt32) &&& (1431655765))) &&& (858993459)) + (((((i - ((((i).toUInt32 >>> ((nI 1).toUInt32 &&& Int32.toUInt32 31)).toInt32) &&& (1431655765)))).toUInt32 >>> ((nI 2).toUInt32 &&& Int32.toUInt32 31)).toInt32) &&& (858993459)))).toUInt32 >>> ((nI 4).toUInt32 &&& Int32.toUInt32 31)).toInt32)) &&& (252645135)) + ((((((((i - ((((i).toUInt32 >>> ((nI 1).toUInt32 &&& Int32.toUInt32 31)).toInt32) &&& (1431655765))) &&& (858993459)) + (((((i - ((((i).toUInt32 >>> ((nI 1).toUInt32 &&& Int32.toUInt32 31)).toInt32) &&& (1431655765)))).toUInt32 >>> ((nI 2).toUInt32 &&& Int32.toUInt32 31)).toInt32) &&& (858993459))) + ((((((i - ((((i).toUInt32 >>> ((nI 1).toUInt32 &&& Int32.toUInt32 31)).toInt32) &&& (1431655765))) &&& (858993459)) + (((((i - ((((i).toUInt32 >>> ((nI 1).toUInt32 &&& Int32.toUInt32 31)).toInt32) &&& (1431655765)))).toUInt32 >>> ((nI 2).toUInt32 &&& Int32.toUInt32 31)).toInt32) &&& (858993459)))).toUInt32 >>> ((nI 4).toUInt32 &&& Int32.toUInt32 31)).toInt32)) &&& (252645135))).toUInt32 >>> ((nI 8).toUInt32 &&& Int32.toUInt32 31)).toInt32)) + (((((((((i - ((((i).toUInt32 >>> ((nI 1).toUInt32 &&& Int32.toUInt32 31)).toInt32) &&& (1431655765))) &&& (858993459)) + (((((i - ((((i).toUInt32 >>> ((nI 1).toUInt32 &&& Int32.toUInt32 31)).toInt32) &&& (1431655765)))).toUInt32 >>> ((nI 2).toUInt32 &&& Int32.toUInt32 31)).toInt32) &&& (858993459))) + ((((((i - ((((i).toUInt32 >>> ((nI 1).toUInt32 &&& Int32.toUInt32 31)).toInt32) &&& (1431655765))) &&& (858993459)) + (((((i - ((((i).toUInt32 >>> ((nI 1).toUInt32 &&& Int32.toUInt32 31)).toInt32) &&& (1431655765)))).toUInt32 >>> ((nI 2).toUInt32 &&& Int32.toUInt32 31)).toInt32) &&& (858993459)))).toUInt32 >>> ((nI 4).toUInt32 &&& Int32.toUInt32 31)).toInt32)) &&& (252645135)) + ((((((((i - ((((i).toUInt32 >>> ((nI 1).toUInt32 &&& Int32.toUInt32 31)).toInt32) &&& (1431655765))) &&& (858993459)) + (((((i - ((((i).toUInt32 >>> ((nI 1).toUInt32 &&& Int32.toUInt32 31)).toInt32) &&& (1431655765)))).toUInt32 >>> ((nI 2).toUInt32 &&& Int32.toUInt32 31)).toInt32) &&& (858993459))) + ((((((i - ((((i).toUInt32 >>> ((nI 1).toUInt32 &&& Int32.toUInt32 31)).toInt32) &&& (1431655765))) &&& (858993459)) + (((((i - ((((i).toUInt32 >>> ((nI 1).toUInt32 &&& Int32.toUInt32 31)).toInt32) &&& (1431655765)))).toUInt32 >>> ((nI 2).toUInt32 &&& Int32.toUInt32 31)).toInt32) &&& (858993459)))).toUInt32 >>> ((nI 4).toUInt32 &&& Int32.toUInt32 31)).toInt32)) &&& (252645135))).toUInt32 >>> ((nI 8).toUInt32 &&& Int32.toUInt32 31)).toInt32))).toUInt32 >>> ((nI 16).toUInt32 &&& Int32.toUInt32 31)).toInt32)))]) F dJ6_bitCount_0f7a4_47 0 rfl (by decide) rfl ?_
  refine v_iload_n F dJ6_bitCount_0f7a4_48 0 rfl rfl ?_
  refine v_bipush (v := nI 63) F dJ6_bitCount_0f7a4_49 (by decide) ?_
  refine v_iand F dJ6_bitCount_0f7a4_51 ?_
  exact v_iret F hr hlk hQ dJ6_bitCount_0f7a4_52 (()) rfl (by rfl)
theorem cs_RX7_76 : CSV RX7 76 RX0 yX0_save cX0_save 2 none 1 := ⟨wC_yX0_save, wM_RX7_76, wIm_yX0_save, wSe_yX0_save, wI_RX0, by decide +kernel, by decide⟩
theorem cs_RX7_105 : CSV RX7 105 RX1 yX1_property cX1_property 3 (some .int) 2 := ⟨wC_yX1_property, wM_RX7_105, wIm_yX1_property, wSe_yX1_property, wI_RX1, by decide +kernel, by decide⟩
theorem cs_RX7_111 : CSV RX7 111 RX1 yX1_change cX1_change 4 none 3 := ⟨wC_yX1_change, wM_RX7_111, wIm_yX1_change, wSe_yX1_change, wI_RX1, by decide +kernel, by decide⟩
set_option maxHeartbeats 4000000 in
set_option maxRecDepth 100000 in
theorem m_X7_changeStretch (lau : Launch) (G : GT) (ad : Nat → Nat) (T : Nat → Int32) (n mo ver : Nat) (S : Nat → Int32) (h : Nat) (P : PT) (Tr : TT) (Rg : RT) (Tx : XT) (Rd : DT) (li k1 : Nat) (a : Int32) (k2 : Nat) (b : Int32) (hl : li < n) (h1 : k1 < 6) (h2 : k2 < 6) (hn : n ≤ 20) (hh : h ≤ 6) : MI lau G 4 yX7_changeStretch cX7_changeStretch 7 (some .int) [.ref (ad 0), .int (nI li), .int (nI k1), .int a, .int (nI k2), .int b] (wC ad G (T, n, mo, ver) (S, h) P Tr Rg Tx Rd) (fun u : Unit => wC ad G (upd (upd T ((li * 6) + k1) a) ((li * 6) + k2) b, n, mo, ver + 2) (pSave S h T n mo, pSaveH h) P Tr Rg Tx Rd) (fun r u => r = (T ((li * 6) + k2) - T ((li * 6) + k1) + nI 1)) := by
  refine mi_of (by decide +kernel) (Nat.le_of_ble_eq_true rfl) ?_
  intro p e s m args below meth c A Q F hr hlk hQ
  refine v_st (w' := wC ad G (T, n, mo, ver) (S, h) P Tr Rg Tx Rd) (pc' := 0) (st' := []) rfl rfl rfl [0, 1, 2, 3, 4, 5] (lv' := [(0, .ref (ad 0)), (1, .int (nI li)), (2, .int (nI k1)), (3, .int a), (4, .int (nI k2)), (5, .int b)]) rfl ?_
  refine v_aload_n F dX7_changeStretch_0 0 rfl rfl ?_
  refine v_get (v := .ref (ad 1)) F inlX7 (ci := 7) rfl 0 (by decide) rfl wF_RX7_10 dX7_changeStretch_1 0 rfl rfl ?_
  refine v_iload_n F dX7_changeStretch_4 1 rfl rfl ?_
  refine v_iload F dX7_changeStretch_5 rfl ?_
  refine v_cVIF F cs_RX7_105 dX7_changeStretch_7 1 (ci := 1) rfl rfl (m_X1_property lau G ad T n mo ver (S, h) P Tr Rg Tx Rd li k2 (by omega) (by omega) (by omega)) (by decide) rfl rfl (Nat.le_of_ble_eq_true rfl) ⟨Nat.zero_le _, Nat.zero_le _⟩ (fun r1 u2 w3 => ?_)
  subst w3
  refine v_aload_n F dX7_changeStretch_10 0 rfl rfl ?_
  refine v_get (v := .ref (ad 1)) F inlX7 (ci := 7) rfl 0 (by decide) rfl wF_RX7_10 dX7_changeStretch_11 0 rfl rfl ?_
  refine v_iload_n F dX7_changeStretch_14 1 rfl rfl ?_
  refine v_iload_n F dX7_changeStretch_15 2 rfl rfl ?_
  refine v_cVIF F cs_RX7_105 dX7_changeStretch_16 1 (ci := 1) rfl rfl (m_X1_property lau G ad T n mo ver (S, h) P Tr Rg Tx Rd li k1 (by omega) (by omega) (by omega)) (by decide) rfl rfl (Nat.le_of_ble_eq_true rfl) ⟨Nat.zero_le _, Nat.zero_le _⟩ (fun r4 u5 w6 => ?_)
  subst w6
  refine v_isub F dX7_changeStretch_19 ?_
  refine v_iconst (v := nI 1) F dX7_changeStretch_20 (by decide) ?_
  refine v_iadd F dX7_changeStretch_21 ?_
  refine v_istore (lv' := [(6, .int (((T ((li * 6) + k2)) - (T ((li * 6) + k1))) + nI 1)), (0, .ref (ad 0)), (1, .int (nI li)), (2, .int (nI k1)), (3, .int a), (4, .int (nI k2)), (5, .int b)]) F dX7_changeStretch_22 (by decide) rfl ?_
  refine v_aload_n F dX7_changeStretch_24 0 rfl rfl ?_
  refine v_get (v := .ref (ad 2)) F inlX7 (ci := 7) rfl 1 (by decide) rfl wF_RX7_19 dX7_changeStretch_25 0 rfl rfl ?_
  refine v_aload_n F dX7_changeStretch_28 0 rfl rfl ?_
  refine v_get (v := .ref (ad 1)) F inlX7 (ci := 7) rfl 0 (by decide) rfl wF_RX7_10 dX7_changeStretch_29 0 rfl rfl ?_
  refine v_cVVF F cs_RX7_76 dX7_changeStretch_32 2 (ci := 0) rfl rfl (m_X0_save lau G ad T n mo ver S h P Tr Rg Tx Rd (by omega)) (by decide) rfl rfl (Nat.le_of_ble_eq_true rfl) ⟨Nat.zero_le _, Nat.zero_le _⟩ (fun u8 w9 => ?_)
  refine v_aload_n F dX7_changeStretch_35 0 rfl rfl ?_
  refine v_get (v := .ref (ad 1)) F inlX7 (ci := 7) rfl 0 (by decide) rfl wF_RX7_10 dX7_changeStretch_36 0 rfl rfl ?_
  refine v_iload_n F dX7_changeStretch_39 1 rfl rfl ?_
  refine v_iload_n F dX7_changeStretch_40 2 rfl rfl ?_
  refine v_iload_n F dX7_changeStretch_41 3 rfl rfl ?_
  refine v_cVVF F cs_RX7_111 dX7_changeStretch_42 1 (ci := 1) rfl rfl (m_X1_change lau G ad T n mo ver (pSave S h T n mo, pSaveH h) P Tr Rg Tx Rd li k1 a (by omega) (by omega) (by omega)) (by decide) rfl rfl (Nat.le_of_ble_eq_true rfl) ⟨Nat.zero_le _, Nat.zero_le _⟩ (fun u11 w12 => ?_)
  refine v_aload_n F dX7_changeStretch_45 0 rfl rfl ?_
  refine v_get (v := .ref (ad 1)) F inlX7 (ci := 7) rfl 0 (by decide) rfl wF_RX7_10 dX7_changeStretch_46 0 rfl rfl ?_
  refine v_iload_n F dX7_changeStretch_49 1 rfl rfl ?_
  refine v_iload F dX7_changeStretch_50 rfl ?_
  refine v_iload F dX7_changeStretch_52 rfl ?_
  refine v_cVVF F cs_RX7_111 dX7_changeStretch_54 1 (ci := 1) rfl rfl (m_X1_change lau G ad (upd T ((li * 6) + k1) a) n mo (ver + 1) (pSave S h T n mo, pSaveH h) P Tr Rg Tx Rd li k2 b (by omega) (by omega) (by omega)) (by decide) rfl rfl (Nat.le_of_ble_eq_true rfl) ⟨Nat.zero_le _, Nat.zero_le _⟩ (fun u14 w15 => ?_)
  refine v_iload F dX7_changeStretch_57 rfl ?_
  refine v_w (w' := wC ad G (upd (upd T ((li * 6) + k1) a) ((li * 6) + k2) b, n, mo, ver + 2) (pSave S h T n mo, pSaveH h) P Tr Rg Tx Rd) (congrArg (fun z_ => wC ad G z_ (pSave S h T n mo, pSaveH h) P Tr Rg Tx Rd) (show (upd (upd T ((li * 6) + k1) a) ((li * 6) + k2) b, n, mo, (ver + 1) + 1) = (upd (upd T ((li * 6) + k1) a) ((li * 6) + k2) b, n, mo, ver + 2) by rfl)) ?_
  exact v_iret F hr hlk hQ dX7_changeStretch_59 (()) rfl (by first | rfl | (simp; done))
theorem cs_RX7_53 : CSS RX7 53 yX7_isSlope cX7_isSlope 1 (some .boolean) 1 := ⟨wC_yX7_isSlope, wM_RX7_53, wSt_yX7_isSlope, wI_RX7, by decide +kernel, by decide⟩
theorem cs_RX7_57 : CSS RX7 57 yX7_isOffset cX7_isOffset 1 (some .boolean) 1 := ⟨wC_yX7_isOffset, wM_RX7_57, wSt_yX7_isOffset, wI_RX7, by decide +kernel, by decide⟩
theorem cs_RX7_67 : CSV RX7 67 RX1 yX1_size cX1_size 1 (some .int) 0 := ⟨wC_yX1_size, wM_RX7_67, wIm_yX1_size, wSe_yX1_size, wI_RX1, by decide +kernel, by decide⟩
theorem cs_RX7_79 : CSV RX7 79 RX1 yX1_addLine cX1_addLine 6 none 4 := ⟨wC_yX1_addLine, wM_RX7_79, wIm_yX1_addLine, wSe_yX1_addLine, wI_RX1, by decide +kernel, by decide⟩
set_option maxHeartbeats 4000000 in
set_option maxRecDepth 100000 in
theorem x_X7_add (lau : Launch) (G : GT) (ad : Nat → Nat) (T : Nat → Int32) (n mo ver : Nat) (S : Nat → Int32) (h : Nat) (P : PT) (Tr : TT) (Rg : RT) (Tx : XT) (Rd : DT) (sl off : Int32) (hn : n ≤ 20) (hh : h ≤ 6) (hst : lau.stackTraces = false) : XI lau G 10 yX7_add cX7_add 3 (some .int) [.ref (ad 0), .int sl, .int off] (wC ad G (T, n, mo, ver) (S, h) P Tr Rg Tx Rd) (fun u : Unit => wC ad G (pAdd T n sl off (nI 0) (nI 99), n + 1, mo, ver + 6) (pSave S h T n mo, pSaveH h) P Tr Rg Tx Rd) (fun r u => xAdd n sl off = 0 ∧ r = nI n) (fun u : Unit => wC ad G (T, n, mo, ver) (S, h) P Tr Rg Tx Rd) (fun E u => (xAdd n sl off = 1 ∧ E = sIAE) ∨ (xAdd n sl off = 2 ∧ E = sISE)) := by
  refine xi_of (by decide +kernel) (Nat.le_of_ble_eq_true rfl) ?_
  intro p e s m args below meth c A Q F hr hlk hQ hSF hSH htab
  refine v_st (w' := wC ad G (T, n, mo, ver) (S, h) P Tr Rg Tx Rd) (pc' := 0) (st' := []) rfl rfl rfl [0, 1, 2] (lv' := [(0, .ref (ad 0)), (1, .int sl), (2, .int off)]) rfl ?_
  refine v_iload_n F dX7_add_0 1 rfl rfl ?_
  refine v_cSIE F cs_RX7_53 dX7_add_1 (m_X7_isSlope lau G sl ) (by decide) rfl rfl (Nat.le_of_ble_eq_true rfl) ⟨Nat.zero_le _, Nat.zero_le _⟩ (fun r1 u2 w3 => ?_)
  subst w3
  refine v_if_eq F 14 dX7_add_4 (by decide) (fun c4 => ?_) (fun c4 => ?_)
  · replace c4 := bI_f c4
    exact v_throw (text := "slope or offset out of range") F hlk hQ hst hSF hSH htab (by decide +kernel) wL_RX7_60 wI_IllegalArgumentException (by decide) xg_IAE xb_IAE xo_IAE dX7_add_14 dX7_add_17 dX7_add_18 dX7_add_20 dX7_add_23 (by decide) (Nat.le_of_ble_eq_true rfl) (by decide) (by decide) (()) rfl (by first | (refine Or.inl ⟨?_, rfl⟩; simp [xAdd, *]; done) | (refine Or.inr (Or.inl ⟨?_, rfl⟩); simp [xAdd, *]; done) | (refine Or.inr (Or.inr ⟨?_, rfl⟩); simp [xAdd, *]; done) | (refine Or.inr ⟨?_, rfl⟩; simp [xAdd, *]; done) | (refine ⟨?_, rfl⟩; simp [xAdd, *]; done))
  · replace c4 := bI_t c4
    refine v_iload_n F dX7_add_7 2 rfl rfl ?_
    refine v_cSIE F cs_RX7_57 dX7_add_8 (m_X7_isOffset lau G off ) (by decide) rfl rfl (Nat.le_of_ble_eq_true rfl) ⟨Nat.zero_le _, Nat.zero_le _⟩ (fun r5 u6 w7 => ?_)
    subst w7
    refine v_if_ne F 24 dX7_add_11 (by decide) (fun c8 => ?_) (fun c8 => ?_)
    · replace c8 := bI_t c8
      refine v_aload_n F dX7_add_24 0 rfl rfl ?_
      refine v_get (v := .ref (ad 1)) F inlX7 (ci := 7) rfl 0 (by decide) rfl wF_RX7_10 dX7_add_25 0 rfl rfl ?_
      refine v_cVIF F cs_RX7_67 dX7_add_28 1 (ci := 1) rfl rfl (m_X1_size lau G ad T n mo ver (S, h) P Tr Rg Tx Rd ) (by decide) rfl rfl (Nat.le_of_ble_eq_true rfl) ⟨Nat.zero_le _, Nat.zero_le _⟩ (fun r9 u10 w11 => ?_)
      subst w11
      refine v_bipush (v := nI 20) F dX7_add_31 (by decide) ?_
      refine v_icmp_lt F 46 dX7_add_33 (by decide) (fun h20 => ?_) (fun h20 => ?_)
      · replace h20 := nL (a := n) (b := 20) (by omega) (by decide) h20
        refine v_aload_n F dX7_add_46 0 rfl rfl ?_
        refine v_get (v := .ref (ad 2)) F inlX7 (ci := 7) rfl 1 (by decide) rfl wF_RX7_19 dX7_add_47 0 rfl rfl ?_
        refine v_aload_n F dX7_add_50 0 rfl rfl ?_
        refine v_get (v := .ref (ad 1)) F inlX7 (ci := 7) rfl 0 (by decide) rfl wF_RX7_10 dX7_add_51 0 rfl rfl ?_
        refine v_cVVF F cs_RX7_76 dX7_add_54 2 (ci := 0) rfl rfl (m_X0_save lau G ad T n mo ver S h P Tr Rg Tx Rd (by omega)) (by decide) rfl rfl (Nat.le_of_ble_eq_true rfl) ⟨Nat.zero_le _, Nat.zero_le _⟩ (fun u13 w14 => ?_)
        refine v_aload_n F dX7_add_57 0 rfl rfl ?_
        refine v_get (v := .ref (ad 1)) F inlX7 (ci := 7) rfl 0 (by decide) rfl wF_RX7_10 dX7_add_58 0 rfl rfl ?_
        refine v_iload_n F dX7_add_61 1 rfl rfl ?_
        refine v_iload_n F dX7_add_62 2 rfl rfl ?_
        refine v_iconst (v := nI 0) F dX7_add_63 (by decide) ?_
        refine v_bipush (v := nI 99) F dX7_add_64 (by decide) ?_
        refine v_cVVF F cs_RX7_79 dX7_add_66 1 (ci := 1) rfl rfl (m_X1_addLine lau G ad T n mo ver (pSave S h T n mo, pSaveH h) P Tr Rg Tx Rd sl off (nI 0) (nI 99) (by omega)) (by decide) rfl rfl (Nat.le_of_ble_eq_true rfl) ⟨Nat.zero_le _, Nat.zero_le _⟩ (fun u16 w17 => ?_)
        refine v_aload_n F dX7_add_69 0 rfl rfl ?_
        refine v_get (v := .ref (ad 1)) F inlX7 (ci := 7) rfl 0 (by decide) rfl wF_RX7_10 dX7_add_70 0 rfl rfl ?_
        refine v_cVIF F cs_RX7_67 dX7_add_73 1 (ci := 1) rfl rfl (m_X1_size lau G ad (pAdd T n sl off (nI 0) (nI 99)) (n + 1) mo (ver + 6) (pSave S h T n mo, pSaveH h) P Tr Rg Tx Rd ) (by decide) rfl rfl (Nat.le_of_ble_eq_true rfl) ⟨Nat.zero_le _, Nat.zero_le _⟩ (fun r18 u19 w20 => ?_)
        subst w20
        refine v_iconst (v := nI 1) F dX7_add_76 (by decide) ?_
        refine v_isub F dX7_add_77 ?_
        refine v_topi (nI n) ((pk_sub (by omega)).trans (congrArg nI (Nat.add_sub_cancel n 1))) ?_
        exact v_iretX F hr hlk hQ dX7_add_78 (()) rfl (by exact ⟨by simp [xAdd, *], rfl⟩)
      · replace h20 := nLn (a := n) (b := 20) (by omega) (by decide) h20
        exact v_throw (text := "no room for another line") F hlk hQ hst hSF hSH htab (by decide +kernel) wL_RX7_71 wI_IllegalStateException (by decide) xg_ISE xb_ISE xo_ISE dX7_add_36 dX7_add_39 dX7_add_40 dX7_add_42 dX7_add_45 (by decide) (Nat.le_of_ble_eq_true rfl) (by decide) (by decide) (()) rfl (by first | (refine Or.inl ⟨?_, rfl⟩; simp [xAdd, *]; done) | (refine Or.inr (Or.inl ⟨?_, rfl⟩); simp [xAdd, *]; done) | (refine Or.inr (Or.inr ⟨?_, rfl⟩); simp [xAdd, *]; done) | (refine Or.inr ⟨?_, rfl⟩; simp [xAdd, *]; done) | (refine ⟨?_, rfl⟩; simp [xAdd, *]; done))
    · replace c8 := bI_f c8
      exact v_throw (text := "slope or offset out of range") F hlk hQ hst hSF hSH htab (by decide +kernel) wL_RX7_60 wI_IllegalArgumentException (by decide) xg_IAE xb_IAE xo_IAE dX7_add_14 dX7_add_17 dX7_add_18 dX7_add_20 dX7_add_23 (by decide) (Nat.le_of_ble_eq_true rfl) (by decide) (by decide) (()) rfl (by first | (refine Or.inl ⟨?_, rfl⟩; simp [xAdd, *]; done) | (refine Or.inr (Or.inl ⟨?_, rfl⟩); simp [xAdd, *]; done) | (refine Or.inr (Or.inr ⟨?_, rfl⟩); simp [xAdd, *]; done) | (refine Or.inr ⟨?_, rfl⟩; simp [xAdd, *]; done) | (refine ⟨?_, rfl⟩; simp [xAdd, *]; done))
theorem cs_RX7_83 : CSV RX7 83 RX1 yX1_has cX1_has 2 (some .boolean) 1 := ⟨wC_yX1_has, wM_RX7_83, wIm_yX1_has, wSe_yX1_has, wI_RX1, by decide +kernel, by decide⟩
theorem cs_RX7_91 : CSS RX7 91 yX7_isStretch cX7_isStretch 3 (some .boolean) 3 := ⟨wC_yX7_isStretch, wM_RX7_91, wSt_yX7_isStretch, wI_RX7, by decide +kernel, by decide⟩
theorem cs_RX7_97 : CSV RX7 97 RX7 yX7_changeStretch cX7_changeStretch 7 (some .int) 5 := ⟨wC_yX7_changeStretch, wM_RX7_97, wIm_yX7_changeStretch, wSe_yX7_changeStretch, wI_RX7, by decide +kernel, by decide⟩
set_option maxHeartbeats 4000000 in
set_option maxRecDepth 100000 in
theorem x_X7_span (lau : Launch) (G : GT) (ad : Nat → Nat) (T : Nat → Int32) (n mo ver : Nat) (S : Nat → Int32) (h : Nat) (P : PT) (Tr : TT) (Rg : RT) (Tx : XT) (Rd : DT) (line a b : Int32) (hn : n ≤ 20) (hh : h ≤ 6) (hst : lau.stackTraces = false) : XI lau G 10 yX7_span cX7_span 4 (some .int) [.ref (ad 0), .int line, .int a, .int b] (wC ad G (T, n, mo, ver) (S, h) P Tr Rg Tx Rd) (fun u : Unit => wC ad G (upd (upd T ((line.toNatClampNeg * 6) + 2) a) ((line.toNatClampNeg * 6) + 3) b, n, mo, ver + 2) (pSave S h T n mo, pSaveH h) P Tr Rg Tx Rd) (fun r u => xStr n line a b (nI 64) = 0 ∧ r = T (line.toNatClampNeg * 6 + 3) - T (line.toNatClampNeg * 6 + 2) + nI 1) (fun u : Unit => wC ad G (T, n, mo, ver) (S, h) P Tr Rg Tx Rd) (fun E u => (xStr n line a b (nI 64) = 1 ∧ E = sIOB) ∨ (xStr n line a b (nI 64) = 2 ∧ E = sIAE)) := by
  refine xi_of (by decide +kernel) (Nat.le_of_ble_eq_true rfl) ?_
  intro p e s m args below meth c A Q F hr hlk hQ hSF hSH htab
  refine v_st (w' := wC ad G (T, n, mo, ver) (S, h) P Tr Rg Tx Rd) (pc' := 0) (st' := []) rfl rfl rfl [0, 1, 2, 3] (lv' := [(0, .ref (ad 0)), (1, .int line), (2, .int a), (3, .int b)]) rfl ?_
  refine v_aload_n F dX7_span_0 0 rfl rfl ?_
  refine v_get (v := .ref (ad 1)) F inlX7 (ci := 7) rfl 0 (by decide) rfl wF_RX7_10 dX7_span_1 0 rfl rfl ?_
  refine v_iload_n F dX7_span_4 1 rfl rfl ?_
  refine v_cVIF F cs_RX7_83 dX7_span_5 1 (ci := 1) rfl rfl (m_X1_has lau G ad T n mo ver (S, h) P Tr Rg Tx Rd line ) (by decide) rfl rfl (Nat.le_of_ble_eq_true rfl) ⟨Nat.zero_le _, Nat.zero_le _⟩ (fun r1 u2 w3 => ?_)
  subst w3
  refine v_if_ne F 21 dX7_span_8 (by decide) (fun c4 => ?_) (fun c4 => ?_)
  · replace c4 := bI_t c4
    obtain ⟨li, hli, rfl⟩ := hasB_of (by omega) c4
    refine v_iload_n F dX7_span_21 2 rfl rfl ?_
    refine v_iload_n F dX7_span_22 3 rfl rfl ?_
    refine v_bipush (v := nI 64) F dX7_span_23 (by decide) ?_
    refine v_cSIE F cs_RX7_91 dX7_span_25 (m_X7_isStretch lau G a b (nI 64) ) (by decide) rfl rfl (Nat.le_of_ble_eq_true rfl) ⟨Nat.zero_le _, Nat.zero_le _⟩ (fun r5 u6 w7 => ?_)
    subst w7
    refine v_if_ne F 41 dX7_span_28 (by decide) (fun c8 => ?_) (fun c8 => ?_)
    · replace c8 := bI_t c8
      refine v_aload_n F dX7_span_41 0 rfl rfl ?_
      refine v_iload_n F dX7_span_42 1 rfl rfl ?_
      refine v_iconst (v := nI 2) F dX7_span_43 (by decide) ?_
      refine v_iload_n F dX7_span_44 2 rfl rfl ?_
      refine v_iconst (v := nI 3) F dX7_span_45 (by decide) ?_
      refine v_iload_n F dX7_span_46 3 rfl rfl ?_
      refine v_cVIF F cs_RX7_97 dX7_span_47 0 (ci := 7) rfl rfl (m_X7_changeStretch lau G ad T n mo ver S h P Tr Rg Tx Rd li 2 a 3 b (by omega) (by omega) (by omega) (by omega) (by omega)) (by decide) rfl rfl (Nat.le_of_ble_eq_true rfl) ⟨Nat.zero_le _, Nat.zero_le _⟩ (fun r9 u10 w11 => ?_)
      subst w11
      refine v_w (w' := wC ad G (upd (upd T (((nI li).toNatClampNeg * 6) + 2) a) (((nI li).toNatClampNeg * 6) + 3) b, n, mo, ver + 2) (pSave S h T n mo, pSaveH h) P Tr Rg Tx Rd) (congrArg (fun z_ => wC ad G z_ (pSave S h T n mo, pSaveH h) P Tr Rg Tx Rd) (show (upd (upd T ((li * 6) + 2) a) ((li * 6) + 3) b, n, mo, ver + 2) = (upd (upd T (((nI li).toNatClampNeg * 6) + 2) a) (((nI li).toNatClampNeg * 6) + 3) b, n, mo, ver + 2) by rw [nI_clamp (by omega)])) ?_
      exact v_iretX F hr hlk hQ dX7_span_50 (()) rfl (by exact ⟨by simp [xStr, *], by rw [nI_clamp (by omega)]⟩)
    · replace c8 := bI_f c8
      exact v_throw (text := "no such span of places") F hlk hQ hst hSF hSH htab (by decide +kernel) wL_RX7_60 wI_IllegalArgumentException (by decide) xg_IAE xb_IAE xo_IAE dX7_span_31 dX7_span_34 dX7_span_35 dX7_span_37 dX7_span_40 (by decide) (Nat.le_of_ble_eq_true rfl) (by decide) (by decide) (()) rfl (by first | (refine Or.inl ⟨?_, rfl⟩; simp [xStr, *]; done) | (refine Or.inr (Or.inl ⟨?_, rfl⟩); simp [xStr, *]; done) | (refine Or.inr (Or.inr ⟨?_, rfl⟩); simp [xStr, *]; done) | (refine Or.inr ⟨?_, rfl⟩; simp [xStr, *]; done) | (refine ⟨?_, rfl⟩; simp [xStr, *]; done))
  · replace c4 := bI_f c4
    exact v_throw (text := "no such line") F hlk hQ hst hSF hSH htab (by decide +kernel) wL_RX7_86 wI_IndexOutOfBoundsException (by decide) xg_IOB xb_IOB xo_IOB dX7_span_11 dX7_span_14 dX7_span_15 dX7_span_17 dX7_span_20 (by decide) (Nat.le_of_ble_eq_true rfl) (by decide) (by decide) (()) rfl (by first | (refine Or.inl ⟨?_, rfl⟩; simp [xStr, *]; done) | (refine Or.inr (Or.inl ⟨?_, rfl⟩); simp [xStr, *]; done) | (refine Or.inr (Or.inr ⟨?_, rfl⟩); simp [xStr, *]; done) | (refine Or.inr ⟨?_, rfl⟩; simp [xStr, *]; done) | (refine ⟨?_, rfl⟩; simp [xStr, *]; done))
set_option maxHeartbeats 4000000 in
set_option maxRecDepth 100000 in
theorem x_X7_live (lau : Launch) (G : GT) (ad : Nat → Nat) (T : Nat → Int32) (n mo ver : Nat) (S : Nat → Int32) (h : Nat) (P : PT) (Tr : TT) (Rg : RT) (Tx : XT) (Rd : DT) (line a b : Int32) (hn : n ≤ 20) (hh : h ≤ 6) (hst : lau.stackTraces = false) : XI lau G 10 yX7_live cX7_live 4 (some .int) [.ref (ad 0), .int line, .int a, .int b] (wC ad G (T, n, mo, ver) (S, h) P Tr Rg Tx Rd) (fun u : Unit => wC ad G (upd (upd T ((line.toNatClampNeg * 6) + 4) a) ((line.toNatClampNeg * 6) + 5) b, n, mo, ver + 2) (pSave S h T n mo, pSaveH h) P Tr Rg Tx Rd) (fun r u => xStr n line a b (nI 100) = 0 ∧ r = T (line.toNatClampNeg * 6 + 5) - T (line.toNatClampNeg * 6 + 4) + nI 1) (fun u : Unit => wC ad G (T, n, mo, ver) (S, h) P Tr Rg Tx Rd) (fun E u => (xStr n line a b (nI 100) = 1 ∧ E = sIOB) ∨ (xStr n line a b (nI 100) = 2 ∧ E = sIAE)) := by
  refine xi_of (by decide +kernel) (Nat.le_of_ble_eq_true rfl) ?_
  intro p e s m args below meth c A Q F hr hlk hQ hSF hSH htab
  refine v_st (w' := wC ad G (T, n, mo, ver) (S, h) P Tr Rg Tx Rd) (pc' := 0) (st' := []) rfl rfl rfl [0, 1, 2, 3] (lv' := [(0, .ref (ad 0)), (1, .int line), (2, .int a), (3, .int b)]) rfl ?_
  refine v_aload_n F dX7_live_0 0 rfl rfl ?_
  refine v_get (v := .ref (ad 1)) F inlX7 (ci := 7) rfl 0 (by decide) rfl wF_RX7_10 dX7_live_1 0 rfl rfl ?_
  refine v_iload_n F dX7_live_4 1 rfl rfl ?_
  refine v_cVIF F cs_RX7_83 dX7_live_5 1 (ci := 1) rfl rfl (m_X1_has lau G ad T n mo ver (S, h) P Tr Rg Tx Rd line ) (by decide) rfl rfl (Nat.le_of_ble_eq_true rfl) ⟨Nat.zero_le _, Nat.zero_le _⟩ (fun r1 u2 w3 => ?_)
  subst w3
  refine v_if_ne F 21 dX7_live_8 (by decide) (fun c4 => ?_) (fun c4 => ?_)
  · replace c4 := bI_t c4
    obtain ⟨li, hli, rfl⟩ := hasB_of (by omega) c4
    refine v_iload_n F dX7_live_21 2 rfl rfl ?_
    refine v_iload_n F dX7_live_22 3 rfl rfl ?_
    refine v_bipush (v := nI 100) F dX7_live_23 (by decide) ?_
    refine v_cSIE F cs_RX7_91 dX7_live_25 (m_X7_isStretch lau G a b (nI 100) ) (by decide) rfl rfl (Nat.le_of_ble_eq_true rfl) ⟨Nat.zero_le _, Nat.zero_le _⟩ (fun r5 u6 w7 => ?_)
    subst w7
    refine v_if_ne F 41 dX7_live_28 (by decide) (fun c8 => ?_) (fun c8 => ?_)
    · replace c8 := bI_t c8
      refine v_aload_n F dX7_live_41 0 rfl rfl ?_
      refine v_iload_n F dX7_live_42 1 rfl rfl ?_
      refine v_iconst (v := nI 4) F dX7_live_43 (by decide) ?_
      refine v_iload_n F dX7_live_44 2 rfl rfl ?_
      refine v_iconst (v := nI 5) F dX7_live_45 (by decide) ?_
      refine v_iload_n F dX7_live_46 3 rfl rfl ?_
      refine v_cVIF F cs_RX7_97 dX7_live_47 0 (ci := 7) rfl rfl (m_X7_changeStretch lau G ad T n mo ver S h P Tr Rg Tx Rd li 4 a 5 b (by omega) (by omega) (by omega) (by omega) (by omega)) (by decide) rfl rfl (Nat.le_of_ble_eq_true rfl) ⟨Nat.zero_le _, Nat.zero_le _⟩ (fun r9 u10 w11 => ?_)
      subst w11
      refine v_w (w' := wC ad G (upd (upd T (((nI li).toNatClampNeg * 6) + 4) a) (((nI li).toNatClampNeg * 6) + 5) b, n, mo, ver + 2) (pSave S h T n mo, pSaveH h) P Tr Rg Tx Rd) (congrArg (fun z_ => wC ad G z_ (pSave S h T n mo, pSaveH h) P Tr Rg Tx Rd) (show (upd (upd T ((li * 6) + 4) a) ((li * 6) + 5) b, n, mo, ver + 2) = (upd (upd T (((nI li).toNatClampNeg * 6) + 4) a) (((nI li).toNatClampNeg * 6) + 5) b, n, mo, ver + 2) by rw [nI_clamp (by omega)])) ?_
      exact v_iretX F hr hlk hQ dX7_live_50 (()) rfl (by exact ⟨by simp [xStr, *], by rw [nI_clamp (by omega)]⟩)
    · replace c8 := bI_f c8
      exact v_throw (text := "no such life") F hlk hQ hst hSF hSH htab (by decide +kernel) wL_RX7_60 wI_IllegalArgumentException (by decide) xg_IAE xb_IAE xo_IAE dX7_live_31 dX7_live_34 dX7_live_35 dX7_live_37 dX7_live_40 (by decide) (Nat.le_of_ble_eq_true rfl) (by decide) (by decide) (()) rfl (by first | (refine Or.inl ⟨?_, rfl⟩; simp [xStr, *]; done) | (refine Or.inr (Or.inl ⟨?_, rfl⟩); simp [xStr, *]; done) | (refine Or.inr (Or.inr ⟨?_, rfl⟩); simp [xStr, *]; done) | (refine Or.inr ⟨?_, rfl⟩; simp [xStr, *]; done) | (refine ⟨?_, rfl⟩; simp [xStr, *]; done))
  · replace c4 := bI_f c4
    exact v_throw (text := "no such line") F hlk hQ hst hSF hSH htab (by decide +kernel) wL_RX7_86 wI_IndexOutOfBoundsException (by decide) xg_IOB xb_IOB xo_IOB dX7_live_11 dX7_live_14 dX7_live_15 dX7_live_17 dX7_live_20 (by decide) (Nat.le_of_ble_eq_true rfl) (by decide) (by decide) (()) rfl (by first | (refine Or.inl ⟨?_, rfl⟩; simp [xStr, *]; done) | (refine Or.inr (Or.inl ⟨?_, rfl⟩); simp [xStr, *]; done) | (refine Or.inr (Or.inr ⟨?_, rfl⟩); simp [xStr, *]; done) | (refine Or.inr ⟨?_, rfl⟩; simp [xStr, *]; done) | (refine ⟨?_, rfl⟩; simp [xStr, *]; done))
set_option maxHeartbeats 4000000 in
set_option maxRecDepth 100000 in
theorem x_X7_lift (lau : Launch) (G : GT) (ad : Nat → Nat) (T : Nat → Int32) (n mo ver : Nat) (S : Nat → Int32) (h : Nat) (P : PT) (Tr : TT) (Rg : RT) (Tx : XT) (Rd : DT) (line by_ : Int32) (hn : n ≤ 20) (hh : h ≤ 6) (hst : lau.stackTraces = false) : XI lau G 10 yX7_lift cX7_lift 4 (some .int) [.ref (ad 0), .int line, .int by_] (wC ad G (T, n, mo, ver) (S, h) P Tr Rg Tx Rd) (fun u : Unit => wC ad G (upd T ((line.toNatClampNeg * 6) + 1) (T (line.toNatClampNeg * 6 + 1) + by_), n, mo, ver + 1) (pSave S h T n mo, pSaveH h) P Tr Rg Tx Rd) (fun r u => xLift T n line by_ = 0 ∧ r = T (line.toNatClampNeg * 6 + 1) + by_) (fun u : Unit => wC ad G (T, n, mo, ver) (S, h) P Tr Rg Tx Rd) (fun E u => (xLift T n line by_ = 1 ∧ E = sIOB) ∨ (xLift T n line by_ = 2 ∧ E = sIAE) ∨ (xLift T n line by_ = 3 ∧ E = sISE)) := by
  refine xi_of (by decide +kernel) (Nat.le_of_ble_eq_true rfl) ?_
  intro p e s m args below meth c A Q F hr hlk hQ hSF hSH htab
  refine v_st (w' := wC ad G (T, n, mo, ver) (S, h) P Tr Rg Tx Rd) (pc' := 0) (st' := []) rfl rfl rfl [0, 1, 2] (lv' := [(0, .ref (ad 0)), (1, .int line), (2, .int by_)]) rfl ?_
  refine v_aload_n F dX7_lift_0 0 rfl rfl ?_
  refine v_get (v := .ref (ad 1)) F inlX7 (ci := 7) rfl 0 (by decide) rfl wF_RX7_10 dX7_lift_1 0 rfl rfl ?_
  refine v_iload_n F dX7_lift_4 1 rfl rfl ?_
  refine v_cVIF F cs_RX7_83 dX7_lift_5 1 (ci := 1) rfl rfl (m_X1_has lau G ad T n mo ver (S, h) P Tr Rg Tx Rd line ) (by decide) rfl rfl (Nat.le_of_ble_eq_true rfl) ⟨Nat.zero_le _, Nat.zero_le _⟩ (fun r1 u2 w3 => ?_)
  subst w3
  refine v_if_ne F 21 dX7_lift_8 (by decide) (fun c4 => ?_) (fun c4 => ?_)
  · replace c4 := bI_t c4
    obtain ⟨li, hli, rfl⟩ := hasB_of (by omega) c4
    have hcl : (nI li).toNatClampNeg = li := nI_clamp (by omega)
    refine v_iload_n F dX7_lift_21 2 rfl rfl ?_
    refine v_cSIE F cs_RX7_57 dX7_lift_22 (m_X7_isOffset lau G by_ ) (by decide) rfl rfl (Nat.le_of_ble_eq_true rfl) ⟨Nat.zero_le _, Nat.zero_le _⟩ (fun r5 u6 w7 => ?_)
    subst w7
    refine v_if_ne F 38 dX7_lift_25 (by decide) (fun c8 => ?_) (fun c8 => ?_)
    · replace c8 := bI_t c8
      refine v_aload_n F dX7_lift_38 0 rfl rfl ?_
      refine v_get (v := .ref (ad 1)) F inlX7 (ci := 7) rfl 0 (by decide) rfl wF_RX7_10 dX7_lift_39 0 rfl rfl ?_
      refine v_iload_n F dX7_lift_42 1 rfl rfl ?_
      refine v_iconst (v := nI 1) F dX7_lift_43 (by decide) ?_
      refine v_cVIF F cs_RX7_105 dX7_lift_44 1 (ci := 1) rfl rfl (m_X1_property lau G ad T n mo ver (S, h) P Tr Rg Tx Rd li 1 (by omega) (by omega) (by omega)) (by decide) rfl rfl (Nat.le_of_ble_eq_true rfl) ⟨Nat.zero_le _, Nat.zero_le _⟩ (fun r9 u10 w11 => ?_)
      subst w11
      refine v_iload_n F dX7_lift_47 2 rfl rfl ?_
      refine v_iadd F dX7_lift_48 ?_
      refine v_istore_n (lv' := [(3, .int ((T ((li * 6) + 1)) + by_)), (0, .ref (ad 0)), (1, .int (nI li)), (2, .int by_)]) F dX7_lift_49 3 rfl (by decide) rfl ?_
      refine v_iload_n F dX7_lift_50 3 rfl rfl ?_
      refine v_cSIE F cs_RX7_57 dX7_lift_51 (m_X7_isOffset lau G ((T ((li * 6) + 1)) + by_) ) (by decide) rfl rfl (Nat.le_of_ble_eq_true rfl) ⟨Nat.zero_le _, Nat.zero_le _⟩ (fun r12 u13 w14 => ?_)
      subst w14
      refine v_if_ne F 67 dX7_lift_54 (by decide) (fun c15 => ?_) (fun c15 => ?_)
      · replace c15 := bI_t c15
        refine v_aload_n F dX7_lift_67 0 rfl rfl ?_
        refine v_get (v := .ref (ad 2)) F inlX7 (ci := 7) rfl 1 (by decide) rfl wF_RX7_19 dX7_lift_68 0 rfl rfl ?_
        refine v_aload_n F dX7_lift_71 0 rfl rfl ?_
        refine v_get (v := .ref (ad 1)) F inlX7 (ci := 7) rfl 0 (by decide) rfl wF_RX7_10 dX7_lift_72 0 rfl rfl ?_
        refine v_cVVF F cs_RX7_76 dX7_lift_75 2 (ci := 0) rfl rfl (m_X0_save lau G ad T n mo ver S h P Tr Rg Tx Rd (by omega)) (by decide) rfl rfl (Nat.le_of_ble_eq_true rfl) ⟨Nat.zero_le _, Nat.zero_le _⟩ (fun u17 w18 => ?_)
        refine v_aload_n F dX7_lift_78 0 rfl rfl ?_
        refine v_get (v := .ref (ad 1)) F inlX7 (ci := 7) rfl 0 (by decide) rfl wF_RX7_10 dX7_lift_79 0 rfl rfl ?_
        refine v_iload_n F dX7_lift_82 1 rfl rfl ?_
        refine v_iconst (v := nI 1) F dX7_lift_83 (by decide) ?_
        refine v_iload_n F dX7_lift_84 3 rfl rfl ?_
        refine v_cVVF F cs_RX7_111 dX7_lift_85 1 (ci := 1) rfl rfl (m_X1_change lau G ad T n mo ver (pSave S h T n mo, pSaveH h) P Tr Rg Tx Rd li 1 ((T ((li * 6) + 1)) + by_) (by omega) (by omega) (by omega)) (by decide) rfl rfl (Nat.le_of_ble_eq_true rfl) ⟨Nat.zero_le _, Nat.zero_le _⟩ (fun u20 w21 => ?_)
        refine v_iload_n F dX7_lift_88 3 rfl rfl ?_
        refine v_w (w' := wC ad G (upd T (((nI li).toNatClampNeg * 6) + 1) (T ((nI li).toNatClampNeg * 6 + 1) + by_), n, mo, ver + 1) (pSave S h T n mo, pSaveH h) P Tr Rg Tx Rd) (congrArg (fun z_ => wC ad G z_ (pSave S h T n mo, pSaveH h) P Tr Rg Tx Rd) (show (upd T ((li * 6) + 1) (((T ((li * 6) + 1)) + by_)), n, mo, ver + 1) = (upd T (((nI li).toNatClampNeg * 6) + 1) (T ((nI li).toNatClampNeg * 6 + 1) + by_), n, mo, ver + 1) by rw [nI_clamp (by omega)])) ?_
        exact v_iretX F hr hlk hQ dX7_lift_89 (()) rfl (by exact ⟨by simp [xLift, *], by rw [nI_clamp (by omega)]⟩)
      · replace c15 := bI_f c15
        exact v_throw (text := "the offset would be out of range") F hlk hQ hst hSF hSH htab (by decide +kernel) wL_RX7_71 wI_IllegalStateException (by decide) xg_ISE xb_ISE xo_ISE dX7_lift_57 dX7_lift_60 dX7_lift_61 dX7_lift_63 dX7_lift_66 (by decide) (Nat.le_of_ble_eq_true rfl) (by decide) (by decide) (()) rfl (by first | (refine Or.inl ⟨?_, rfl⟩; simp [xLift, *]; done) | (refine Or.inr (Or.inl ⟨?_, rfl⟩); simp [xLift, *]; done) | (refine Or.inr (Or.inr ⟨?_, rfl⟩); simp [xLift, *]; done) | (refine Or.inr ⟨?_, rfl⟩; simp [xLift, *]; done) | (refine ⟨?_, rfl⟩; simp [xLift, *]; done))
    · replace c8 := bI_f c8
      exact v_throw (text := "by out of range") F hlk hQ hst hSF hSH htab (by decide +kernel) wL_RX7_60 wI_IllegalArgumentException (by decide) xg_IAE xb_IAE xo_IAE dX7_lift_28 dX7_lift_31 dX7_lift_32 dX7_lift_34 dX7_lift_37 (by decide) (Nat.le_of_ble_eq_true rfl) (by decide) (by decide) (()) rfl (by first | (refine Or.inl ⟨?_, rfl⟩; simp [xLift, *]; done) | (refine Or.inr (Or.inl ⟨?_, rfl⟩); simp [xLift, *]; done) | (refine Or.inr (Or.inr ⟨?_, rfl⟩); simp [xLift, *]; done) | (refine Or.inr ⟨?_, rfl⟩; simp [xLift, *]; done) | (refine ⟨?_, rfl⟩; simp [xLift, *]; done))
  · replace c4 := bI_f c4
    exact v_throw (text := "no such line") F hlk hQ hst hSF hSH htab (by decide +kernel) wL_RX7_86 wI_IndexOutOfBoundsException (by decide) xg_IOB xb_IOB xo_IOB dX7_lift_11 dX7_lift_14 dX7_lift_15 dX7_lift_17 dX7_lift_20 (by decide) (Nat.le_of_ble_eq_true rfl) (by decide) (by decide) (()) rfl (by first | (refine Or.inl ⟨?_, rfl⟩; simp [xLift, *]; done) | (refine Or.inr (Or.inl ⟨?_, rfl⟩); simp [xLift, *]; done) | (refine Or.inr (Or.inr ⟨?_, rfl⟩); simp [xLift, *]; done) | (refine Or.inr ⟨?_, rfl⟩; simp [xLift, *]; done) | (refine ⟨?_, rfl⟩; simp [xLift, *]; done))
theorem cs_RX7_115 : CSS RX7 115 yX7_isPlace cX7_isPlace 1 (some .boolean) 1 := ⟨wC_yX7_isPlace, wM_RX7_115, wSt_yX7_isPlace, wI_RX7, by decide +kernel, by decide⟩
theorem cs_RX7_120 : CSV RX7 120 RX1 yX1_valueAt cX1_valueAt 3 (some .int) 2 := ⟨wC_yX1_valueAt, wM_RX7_120, wIm_yX1_valueAt, wSe_yX1_valueAt, wI_RX1, by decide +kernel, by decide⟩
set_option maxHeartbeats 4000000 in
set_option maxRecDepth 100000 in
theorem x_X7_turn (lau : Launch) (G : GT) (ad : Nat → Nat) (T : Nat → Int32) (n mo ver : Nat) (S : Nat → Int32) (h : Nat) (P : PT) (Tr : TT) (Rg : RT) (Tx : XT) (Rd : DT) (line pl sl : Int32) (hn : n ≤ 20) (hh : h ≤ 6) (hst : lau.stackTraces = false) : XI lau G 10 yX7_turn cX7_turn 5 (some .int) [.ref (ad 0), .int line, .int pl, .int sl] (wC ad G (T, n, mo, ver) (S, h) P Tr Rg Tx Rd) (fun u : Unit => wC ad G (upd (upd T ((line.toNatClampNeg * 6) + 0) sl) ((line.toNatClampNeg * 6) + 1) (tuV T line pl sl), n, mo, ver + 2) (pSave S h T n mo, pSaveH h) P Tr Rg Tx Rd) (fun r u => xTurn T n line pl sl = 0 ∧ r = tuV T line pl sl) (fun u : Unit => wC ad G (T, n, mo, ver) (S, h) P Tr Rg Tx Rd) (fun E u => (xTurn T n line pl sl = 1 ∧ E = sIOB) ∨ (xTurn T n line pl sl = 2 ∧ E = sIAE) ∨ (xTurn T n line pl sl = 3 ∧ E = sISE)) := by
  refine xi_of (by decide +kernel) (Nat.le_of_ble_eq_true rfl) ?_
  intro p e s m args below meth c A Q F hr hlk hQ hSF hSH htab
  refine v_st (w' := wC ad G (T, n, mo, ver) (S, h) P Tr Rg Tx Rd) (pc' := 0) (st' := []) rfl rfl rfl [0, 1, 2, 3] (lv' := [(0, .ref (ad 0)), (1, .int line), (2, .int pl), (3, .int sl)]) rfl ?_
  refine v_aload_n F dX7_turn_0 0 rfl rfl ?_
  refine v_get (v := .ref (ad 1)) F inlX7 (ci := 7) rfl 0 (by decide) rfl wF_RX7_10 dX7_turn_1 0 rfl rfl ?_
  refine v_iload_n F dX7_turn_4 1 rfl rfl ?_
  refine v_cVIF F cs_RX7_83 dX7_turn_5 1 (ci := 1) rfl rfl (m_X1_has lau G ad T n mo ver (S, h) P Tr Rg Tx Rd line ) (by decide) rfl rfl (Nat.le_of_ble_eq_true rfl) ⟨Nat.zero_le _, Nat.zero_le _⟩ (fun r1 u2 w3 => ?_)
  subst w3
  refine v_if_ne F 21 dX7_turn_8 (by decide) (fun c4 => ?_) (fun c4 => ?_)
  · replace c4 := bI_t c4
    obtain ⟨li, hli, rfl⟩ := hasB_of (by omega) c4
    have hcl : (nI li).toNatClampNeg = li := nI_clamp (by omega)
    refine v_iload_n F dX7_turn_21 2 rfl rfl ?_
    refine v_cSIE F cs_RX7_115 dX7_turn_22 (m_X7_isPlace lau G pl ) (by decide) rfl rfl (Nat.le_of_ble_eq_true rfl) ⟨Nat.zero_le _, Nat.zero_le _⟩ (fun r5 u6 w7 => ?_)
    subst w7
    refine v_if_eq F 35 dX7_turn_25 (by decide) (fun hpl => ?_) (fun hpl => ?_)
    · replace hpl := bI_f hpl
      exact v_throw (text := "place or slope out of range") F hlk hQ hst hSF hSH htab (by decide +kernel) wL_RX7_60 wI_IllegalArgumentException (by decide) xg_IAE xb_IAE xo_IAE dX7_turn_35 dX7_turn_38 dX7_turn_39 dX7_turn_41 dX7_turn_44 (by decide) (Nat.le_of_ble_eq_true rfl) (by decide) (by decide) (()) rfl (by first | (refine Or.inl ⟨?_, rfl⟩; simp [xTurn, tuV, *]; done) | (refine Or.inr (Or.inl ⟨?_, rfl⟩); simp [xTurn, tuV, *]; done) | (refine Or.inr (Or.inr ⟨?_, rfl⟩); simp [xTurn, tuV, *]; done) | (refine Or.inr ⟨?_, rfl⟩; simp [xTurn, tuV, *]; done) | (refine ⟨?_, rfl⟩; simp [xTurn, tuV, *]; done))
    · replace hpl := bI_t hpl
      obtain ⟨x, hx, rfl⟩ := plB_of hpl
      have hcx : (nI x).toNatClampNeg = x := nI_clamp (by omega)
      refine v_iload_n F dX7_turn_28 3 rfl rfl ?_
      refine v_cSIE F cs_RX7_53 dX7_turn_29 (m_X7_isSlope lau G sl ) (by decide) rfl rfl (Nat.le_of_ble_eq_true rfl) ⟨Nat.zero_le _, Nat.zero_le _⟩ (fun r8 u9 w10 => ?_)
      subst w10
      refine v_if_ne F 45 dX7_turn_32 (by decide) (fun c11 => ?_) (fun c11 => ?_)
      · replace c11 := bI_t c11
        refine v_aload_n F dX7_turn_45 0 rfl rfl ?_
        refine v_get (v := .ref (ad 1)) F inlX7 (ci := 7) rfl 0 (by decide) rfl wF_RX7_10 dX7_turn_46 0 rfl rfl ?_
        refine v_iload_n F dX7_turn_49 1 rfl rfl ?_
        refine v_iload_n F dX7_turn_50 2 rfl rfl ?_
        refine v_cVIF F cs_RX7_120 dX7_turn_51 1 (ci := 1) rfl rfl (m_X1_valueAt lau G ad T n mo ver (S, h) P Tr Rg Tx Rd li x (by omega) (by omega)) (by decide) rfl rfl (Nat.le_of_ble_eq_true rfl) ⟨Nat.zero_le _, Nat.zero_le _⟩ (fun r12 u13 w14 => ?_)
        subst w14
        refine v_iload_n F dX7_turn_54 3 rfl rfl ?_
        refine v_iload_n F dX7_turn_55 2 rfl rfl ?_
        refine v_imul F dX7_turn_56 ?_
        refine v_isub F dX7_turn_57 ?_
        refine v_istore (lv' := [(4, .int ((pVal T li x) - (sl * nI x))), (0, .ref (ad 0)), (1, .int (nI li)), (2, .int (nI x)), (3, .int sl)]) F dX7_turn_58 (by decide) rfl ?_
        refine v_iload F dX7_turn_60 rfl ?_
        refine v_cSIE F cs_RX7_57 dX7_turn_62 (m_X7_isOffset lau G ((pVal T li x) - (sl * nI x)) ) (by decide) rfl rfl (Nat.le_of_ble_eq_true rfl) ⟨Nat.zero_le _, Nat.zero_le _⟩ (fun r15 u16 w17 => ?_)
        subst w17
        refine v_if_ne F 78 dX7_turn_65 (by decide) (fun c18 => ?_) (fun c18 => ?_)
        · replace c18 := bI_t c18
          refine v_aload_n F dX7_turn_78 0 rfl rfl ?_
          refine v_get (v := .ref (ad 2)) F inlX7 (ci := 7) rfl 1 (by decide) rfl wF_RX7_19 dX7_turn_79 0 rfl rfl ?_
          refine v_aload_n F dX7_turn_82 0 rfl rfl ?_
          refine v_get (v := .ref (ad 1)) F inlX7 (ci := 7) rfl 0 (by decide) rfl wF_RX7_10 dX7_turn_83 0 rfl rfl ?_
          refine v_cVVF F cs_RX7_76 dX7_turn_86 2 (ci := 0) rfl rfl (m_X0_save lau G ad T n mo ver S h P Tr Rg Tx Rd (by omega)) (by decide) rfl rfl (Nat.le_of_ble_eq_true rfl) ⟨Nat.zero_le _, Nat.zero_le _⟩ (fun u20 w21 => ?_)
          refine v_aload_n F dX7_turn_89 0 rfl rfl ?_
          refine v_get (v := .ref (ad 1)) F inlX7 (ci := 7) rfl 0 (by decide) rfl wF_RX7_10 dX7_turn_90 0 rfl rfl ?_
          refine v_iload_n F dX7_turn_93 1 rfl rfl ?_
          refine v_iconst (v := nI 0) F dX7_turn_94 (by decide) ?_
          refine v_iload_n F dX7_turn_95 3 rfl rfl ?_
          refine v_cVVF F cs_RX7_111 dX7_turn_96 1 (ci := 1) rfl rfl (m_X1_change lau G ad T n mo ver (pSave S h T n mo, pSaveH h) P Tr Rg Tx Rd li 0 sl (by omega) (by omega) (by omega)) (by decide) rfl rfl (Nat.le_of_ble_eq_true rfl) ⟨Nat.zero_le _, Nat.zero_le _⟩ (fun u23 w24 => ?_)
          refine v_aload_n F dX7_turn_99 0 rfl rfl ?_
          refine v_get (v := .ref (ad 1)) F inlX7 (ci := 7) rfl 0 (by decide) rfl wF_RX7_10 dX7_turn_100 0 rfl rfl ?_
          refine v_iload_n F dX7_turn_103 1 rfl rfl ?_
          refine v_iconst (v := nI 1) F dX7_turn_104 (by decide) ?_
          refine v_iload F dX7_turn_105 rfl ?_
          refine v_cVVF F cs_RX7_111 dX7_turn_107 1 (ci := 1) rfl rfl (m_X1_change lau G ad (upd T ((li * 6) + 0) sl) n mo (ver + 1) (pSave S h T n mo, pSaveH h) P Tr Rg Tx Rd li 1 ((pVal T li x) - (sl * nI x)) (by omega) (by omega) (by omega)) (by decide) rfl rfl (Nat.le_of_ble_eq_true rfl) ⟨Nat.zero_le _, Nat.zero_le _⟩ (fun u26 w27 => ?_)
          refine v_iload F dX7_turn_110 rfl ?_
          refine v_w (w' := wC ad G (upd (upd T (((nI li).toNatClampNeg * 6) + 0) sl) (((nI li).toNatClampNeg * 6) + 1) (tuV T (nI li) (nI x) sl), n, mo, ver + 2) (pSave S h T n mo, pSaveH h) P Tr Rg Tx Rd) (congrArg (fun z_ => wC ad G z_ (pSave S h T n mo, pSaveH h) P Tr Rg Tx Rd) (show (upd (upd T ((li * 6) + 0) sl) ((li * 6) + 1) (((pVal T li x) - (sl * nI x))), n, mo, (ver + 1) + 1) = (upd (upd T (((nI li).toNatClampNeg * 6) + 0) sl) (((nI li).toNatClampNeg * 6) + 1) (tuV T (nI li) (nI x) sl), n, mo, ver + 2) by simp only [tuV, nI_clamp (show li < 2 ^ 31 by omega), nI_clamp (show x < 2 ^ 31 by omega)])) ?_
          exact v_iretX F hr hlk hQ dX7_turn_112 (()) rfl (by exact ⟨by simp [xTurn, tuV, *], by simp only [tuV, hcl, hcx]⟩)
        · replace c18 := bI_f c18
          exact v_throw (text := "the offset would be out of range") F hlk hQ hst hSF hSH htab (by decide +kernel) wL_RX7_71 wI_IllegalStateException (by decide) xg_ISE xb_ISE xo_ISE dX7_turn_68 dX7_turn_71 dX7_turn_72 dX7_turn_74 dX7_turn_77 (by decide) (Nat.le_of_ble_eq_true rfl) (by decide) (by decide) (()) rfl (by first | (refine Or.inl ⟨?_, rfl⟩; simp [xTurn, tuV, *]; done) | (refine Or.inr (Or.inl ⟨?_, rfl⟩); simp [xTurn, tuV, *]; done) | (refine Or.inr (Or.inr ⟨?_, rfl⟩); simp [xTurn, tuV, *]; done) | (refine Or.inr ⟨?_, rfl⟩; simp [xTurn, tuV, *]; done) | (refine ⟨?_, rfl⟩; simp [xTurn, tuV, *]; done))
      · replace c11 := bI_f c11
        exact v_throw (text := "place or slope out of range") F hlk hQ hst hSF hSH htab (by decide +kernel) wL_RX7_60 wI_IllegalArgumentException (by decide) xg_IAE xb_IAE xo_IAE dX7_turn_35 dX7_turn_38 dX7_turn_39 dX7_turn_41 dX7_turn_44 (by decide) (Nat.le_of_ble_eq_true rfl) (by decide) (by decide) (()) rfl (by first | (refine Or.inl ⟨?_, rfl⟩; simp [xTurn, tuV, *]; done) | (refine Or.inr (Or.inl ⟨?_, rfl⟩); simp [xTurn, tuV, *]; done) | (refine Or.inr (Or.inr ⟨?_, rfl⟩); simp [xTurn, tuV, *]; done) | (refine Or.inr ⟨?_, rfl⟩; simp [xTurn, tuV, *]; done) | (refine ⟨?_, rfl⟩; simp [xTurn, tuV, *]; done))
  · replace c4 := bI_f c4
    exact v_throw (text := "no such line") F hlk hQ hst hSF hSH htab (by decide +kernel) wL_RX7_86 wI_IndexOutOfBoundsException (by decide) xg_IOB xb_IOB xo_IOB dX7_turn_11 dX7_turn_14 dX7_turn_15 dX7_turn_17 dX7_turn_20 (by decide) (Nat.le_of_ble_eq_true rfl) (by decide) (by decide) (()) rfl (by first | (refine Or.inl ⟨?_, rfl⟩; simp [xTurn, tuV, *]; done) | (refine Or.inr (Or.inl ⟨?_, rfl⟩); simp [xTurn, tuV, *]; done) | (refine Or.inr (Or.inr ⟨?_, rfl⟩); simp [xTurn, tuV, *]; done) | (refine Or.inr ⟨?_, rfl⟩; simp [xTurn, tuV, *]; done) | (refine ⟨?_, rfl⟩; simp [xTurn, tuV, *]; done))
theorem cs_RX7_123 : CSV RX7 123 RX1 yX1_drop cX1_drop 3 none 1 := ⟨wC_yX1_drop, wM_RX7_123, wIm_yX1_drop, wSe_yX1_drop, wI_RX1, by decide +kernel, by decide⟩
set_option maxHeartbeats 4000000 in
set_option maxRecDepth 100000 in
theorem x_X7_remove (lau : Launch) (G : GT) (ad : Nat → Nat) (T : Nat → Int32) (n mo ver : Nat) (S : Nat → Int32) (h : Nat) (P : PT) (Tr : TT) (Rg : RT) (Tx : XT) (Rd : DT) (line : Int32) (hn : n ≤ 20) (hh : h ≤ 6) (hst : lau.stackTraces = false) : XI lau G 10 yX7_remove cX7_remove 2 (some .int) [.ref (ad 0), .int line] (wC ad G (T, n, mo, ver) (S, h) P Tr Rg Tx Rd) (fun u : Unit => wC ad G (pDrop T n line.toNatClampNeg, n - 1, mo, ver + 1) (pSave S h T n mo, pSaveH h) P Tr Rg Tx Rd) (fun r u => xRem n line = 0 ∧ r = nI (n - 1)) (fun u : Unit => wC ad G (T, n, mo, ver) (S, h) P Tr Rg Tx Rd) (fun E u => (xRem n line = 1 ∧ E = sIOB)) := by
  refine xi_of (by decide +kernel) (Nat.le_of_ble_eq_true rfl) ?_
  intro p e s m args below meth c A Q F hr hlk hQ hSF hSH htab
  refine v_st (w' := wC ad G (T, n, mo, ver) (S, h) P Tr Rg Tx Rd) (pc' := 0) (st' := []) rfl rfl rfl [0, 1] (lv' := [(0, .ref (ad 0)), (1, .int line)]) rfl ?_
  refine v_aload_n F dX7_remove_0 0 rfl rfl ?_
  refine v_get (v := .ref (ad 1)) F inlX7 (ci := 7) rfl 0 (by decide) rfl wF_RX7_10 dX7_remove_1 0 rfl rfl ?_
  refine v_iload_n F dX7_remove_4 1 rfl rfl ?_
  refine v_cVIF F cs_RX7_83 dX7_remove_5 1 (ci := 1) rfl rfl (m_X1_has lau G ad T n mo ver (S, h) P Tr Rg Tx Rd line ) (by decide) rfl rfl (Nat.le_of_ble_eq_true rfl) ⟨Nat.zero_le _, Nat.zero_le _⟩ (fun r1 u2 w3 => ?_)
  subst w3
  refine v_if_ne F 21 dX7_remove_8 (by decide) (fun c4 => ?_) (fun c4 => ?_)
  · replace c4 := bI_t c4
    obtain ⟨li, hli, rfl⟩ := hasB_of (by omega) c4
    refine v_aload_n F dX7_remove_21 0 rfl rfl ?_
    refine v_get (v := .ref (ad 2)) F inlX7 (ci := 7) rfl 1 (by decide) rfl wF_RX7_19 dX7_remove_22 0 rfl rfl ?_
    refine v_aload_n F dX7_remove_25 0 rfl rfl ?_
    refine v_get (v := .ref (ad 1)) F inlX7 (ci := 7) rfl 0 (by decide) rfl wF_RX7_10 dX7_remove_26 0 rfl rfl ?_
    refine v_cVVF F cs_RX7_76 dX7_remove_29 2 (ci := 0) rfl rfl (m_X0_save lau G ad T n mo ver S h P Tr Rg Tx Rd (by omega)) (by decide) rfl rfl (Nat.le_of_ble_eq_true rfl) ⟨Nat.zero_le _, Nat.zero_le _⟩ (fun u6 w7 => ?_)
    refine v_aload_n F dX7_remove_32 0 rfl rfl ?_
    refine v_get (v := .ref (ad 1)) F inlX7 (ci := 7) rfl 0 (by decide) rfl wF_RX7_10 dX7_remove_33 0 rfl rfl ?_
    refine v_iload_n F dX7_remove_36 1 rfl rfl ?_
    refine v_cVVF F cs_RX7_123 dX7_remove_37 1 (ci := 1) rfl rfl (m_X1_drop lau G ad T n mo ver (pSave S h T n mo, pSaveH h) P Tr Rg Tx Rd li (by omega) (by omega)) (by decide) rfl rfl (Nat.le_of_ble_eq_true rfl) ⟨Nat.zero_le _, Nat.zero_le _⟩ (fun u9 w10 => ?_)
    refine v_aload_n F dX7_remove_40 0 rfl rfl ?_
    refine v_get (v := .ref (ad 1)) F inlX7 (ci := 7) rfl 0 (by decide) rfl wF_RX7_10 dX7_remove_41 0 rfl rfl ?_
    refine v_cVIF F cs_RX7_67 dX7_remove_44 1 (ci := 1) rfl rfl (m_X1_size lau G ad (pDrop T n li) (n - 1) mo (ver + 1) (pSave S h T n mo, pSaveH h) P Tr Rg Tx Rd ) (by decide) rfl rfl (Nat.le_of_ble_eq_true rfl) ⟨Nat.zero_le _, Nat.zero_le _⟩ (fun r11 u12 w13 => ?_)
    subst w13
    refine v_w (w' := wC ad G (pDrop T n (nI li).toNatClampNeg, n - 1, mo, ver + 1) (pSave S h T n mo, pSaveH h) P Tr Rg Tx Rd) (congrArg (fun z_ => wC ad G z_ (pSave S h T n mo, pSaveH h) P Tr Rg Tx Rd) (show (pDrop T n li, n - 1, mo, ver + 1) = (pDrop T n (nI li).toNatClampNeg, n - 1, mo, ver + 1) by rw [nI_clamp (by omega)])) ?_
    exact v_iretX F hr hlk hQ dX7_remove_47 (()) rfl (by exact ⟨by simp [xRem, *], rfl⟩)
  · replace c4 := bI_f c4
    exact v_throw (text := "no such line") F hlk hQ hst hSF hSH htab (by decide +kernel) wL_RX7_86 wI_IndexOutOfBoundsException (by decide) xg_IOB xb_IOB xo_IOB dX7_remove_11 dX7_remove_14 dX7_remove_15 dX7_remove_17 dX7_remove_20 (by decide) (Nat.le_of_ble_eq_true rfl) (by decide) (by decide) (()) rfl (by first | (refine Or.inl ⟨?_, rfl⟩; simp [xRem, *]; done) | (refine Or.inr (Or.inl ⟨?_, rfl⟩); simp [xRem, *]; done) | (refine Or.inr (Or.inr ⟨?_, rfl⟩); simp [xRem, *]; done) | (refine Or.inr ⟨?_, rfl⟩; simp [xRem, *]; done) | (refine ⟨?_, rfl⟩; simp [xRem, *]; done))
theorem cs_RX7_136 : CSS RX7 136 yX7_isMoment cX7_isMoment 1 (some .boolean) 1 := ⟨wC_yX7_isMoment, wM_RX7_136, wSt_yX7_isMoment, wI_RX7, by decide +kernel, by decide⟩
theorem cs_RX7_141 : CSV RX7 141 RX1 yX1_moment cX1_moment 1 (some .int) 0 := ⟨wC_yX1_moment, wM_RX7_141, wIm_yX1_moment, wSe_yX1_moment, wI_RX1, by decide +kernel, by decide⟩
theorem cs_RX7_144 : CSV RX7 144 RX1 yX1_moveTo cX1_moveTo 2 none 1 := ⟨wC_yX1_moveTo, wM_RX7_144, wIm_yX1_moveTo, wSe_yX1_moveTo, wI_RX1, by decide +kernel, by decide⟩
set_option maxHeartbeats 4000000 in
set_option maxRecDepth 100000 in
theorem x_X7_go (lau : Launch) (G : GT) (ad : Nat → Nat) (T : Nat → Int32) (n mo ver : Nat) (S : Nat → Int32) (h : Nat) (P : PT) (Tr : TT) (Rg : RT) (Tx : XT) (Rd : DT) (mm : Int32) (hn : n ≤ 20) (hh : h ≤ 6) (hst : lau.stackTraces = false) : XI lau G 10 yX7_go cX7_go 3 (some .int) [.ref (ad 0), .int mm] (wC ad G (T, n, mo, ver) (S, h) P Tr Rg Tx Rd) (fun u : Unit => wC ad G (T, n, mm.toNatClampNeg, ver + 1) (pSave S h T n mo, pSaveH h) P Tr Rg Tx Rd) (fun r u => xGo mm = 0 ∧ r = nI mo) (fun u : Unit => wC ad G (T, n, mo, ver) (S, h) P Tr Rg Tx Rd) (fun E u => (xGo mm = 1 ∧ E = sIAE)) := by
  refine xi_of (by decide +kernel) (Nat.le_of_ble_eq_true rfl) ?_
  intro p e s m args below meth c A Q F hr hlk hQ hSF hSH htab
  refine v_st (w' := wC ad G (T, n, mo, ver) (S, h) P Tr Rg Tx Rd) (pc' := 0) (st' := []) rfl rfl rfl [0, 1] (lv' := [(0, .ref (ad 0)), (1, .int mm)]) rfl ?_
  refine v_iload_n F dX7_go_0 1 rfl rfl ?_
  refine v_cSIE F cs_RX7_136 dX7_go_1 (m_X7_isMoment lau G mm ) (by decide) rfl rfl (Nat.le_of_ble_eq_true rfl) ⟨Nat.zero_le _, Nat.zero_le _⟩ (fun r1 u2 w3 => ?_)
  subst w3
  refine v_if_ne F 17 dX7_go_4 (by decide) (fun c4 => ?_) (fun c4 => ?_)
  · replace c4 := bI_t c4
    obtain ⟨mj, hmj, rfl⟩ := moB_of c4
    refine v_aload_n F dX7_go_17 0 rfl rfl ?_
    refine v_get (v := .ref (ad 1)) F inlX7 (ci := 7) rfl 0 (by decide) rfl wF_RX7_10 dX7_go_18 0 rfl rfl ?_
    refine v_cVIF F cs_RX7_141 dX7_go_21 1 (ci := 1) rfl rfl (m_X1_moment lau G ad T n mo ver (S, h) P Tr Rg Tx Rd ) (by decide) rfl rfl (Nat.le_of_ble_eq_true rfl) ⟨Nat.zero_le _, Nat.zero_le _⟩ (fun r5 u6 w7 => ?_)
    subst w7
    refine v_istore_n (lv' := [(2, .int (nI mo)), (0, .ref (ad 0)), (1, .int (nI mj))]) F dX7_go_24 2 rfl (by decide) rfl ?_
    refine v_aload_n F dX7_go_25 0 rfl rfl ?_
    refine v_get (v := .ref (ad 2)) F inlX7 (ci := 7) rfl 1 (by decide) rfl wF_RX7_19 dX7_go_26 0 rfl rfl ?_
    refine v_aload_n F dX7_go_29 0 rfl rfl ?_
    refine v_get (v := .ref (ad 1)) F inlX7 (ci := 7) rfl 0 (by decide) rfl wF_RX7_10 dX7_go_30 0 rfl rfl ?_
    refine v_cVVF F cs_RX7_76 dX7_go_33 2 (ci := 0) rfl rfl (m_X0_save lau G ad T n mo ver S h P Tr Rg Tx Rd (by omega)) (by decide) rfl rfl (Nat.le_of_ble_eq_true rfl) ⟨Nat.zero_le _, Nat.zero_le _⟩ (fun u9 w10 => ?_)
    refine v_aload_n F dX7_go_36 0 rfl rfl ?_
    refine v_get (v := .ref (ad 1)) F inlX7 (ci := 7) rfl 0 (by decide) rfl wF_RX7_10 dX7_go_37 0 rfl rfl ?_
    refine v_iload_n F dX7_go_40 1 rfl rfl ?_
    refine v_cVVF F cs_RX7_144 dX7_go_41 1 (ci := 1) rfl rfl (m_X1_moveTo lau G ad T n mo ver (pSave S h T n mo, pSaveH h) P Tr Rg Tx Rd mj ) (by decide) rfl rfl (Nat.le_of_ble_eq_true rfl) ⟨Nat.zero_le _, Nat.zero_le _⟩ (fun u12 w13 => ?_)
    refine v_iload_n F dX7_go_44 2 rfl rfl ?_
    refine v_w (w' := wC ad G (T, n, (nI mj).toNatClampNeg, ver + 1) (pSave S h T n mo, pSaveH h) P Tr Rg Tx Rd) (congrArg (fun z_ => wC ad G z_ (pSave S h T n mo, pSaveH h) P Tr Rg Tx Rd) (show (T, n, mj, ver + 1) = (T, n, (nI mj).toNatClampNeg, ver + 1) by rw [nI_clamp (by omega)])) ?_
    exact v_iretX F hr hlk hQ dX7_go_45 (()) rfl (by exact ⟨by simp [xGo, *], rfl⟩)
  · replace c4 := bI_f c4
    exact v_throw (text := "moment out of range") F hlk hQ hst hSF hSH htab (by decide +kernel) wL_RX7_60 wI_IllegalArgumentException (by decide) xg_IAE xb_IAE xo_IAE dX7_go_7 dX7_go_10 dX7_go_11 dX7_go_13 dX7_go_16 (by decide) (Nat.le_of_ble_eq_true rfl) (by decide) (by decide) (()) rfl (by first | (refine Or.inl ⟨?_, rfl⟩; simp [xGo, *]; done) | (refine Or.inr (Or.inl ⟨?_, rfl⟩); simp [xGo, *]; done) | (refine Or.inr (Or.inr ⟨?_, rfl⟩); simp [xGo, *]; done) | (refine Or.inr ⟨?_, rfl⟩; simp [xGo, *]; done) | (refine ⟨?_, rfl⟩; simp [xGo, *]; done))
theorem cs_RX7_177 : CSV RX7 177 RX0 yX0_size cX0_size 1 (some .int) 0 := ⟨wC_yX0_size, wM_RX7_177, wIm_yX0_size, wSe_yX0_size, wI_RX0, by decide +kernel, by decide⟩
theorem cs_RX7_180 : CSV RX7 180 RX0 yX0_restore cX0_restore 2 none 1 := ⟨wC_yX0_restore, wM_RX7_180, wIm_yX0_restore, wSe_yX0_restore, wI_RX0, by decide +kernel, by decide⟩
set_option maxHeartbeats 4000000 in
set_option maxRecDepth 100000 in
theorem x_X7_undo (lau : Launch) (G : GT) (ad : Nat → Nat) (T : Nat → Int32) (n mo ver : Nat) (S : Nat → Int32) (h : Nat) (P : PT) (Tr : TT) (Rg : RT) (Tx : XT) (Rd : DT) (n' mo' : Nat) (hh : h ≤ 6) (hn' : 0 < h → S ((h - 1) * 122 + 1) = nI n') (hmo' : 0 < h → S ((h - 1) * 122) = nI mo') (hst : lau.stackTraces = false) : XI lau G 10 yX7_undo cX7_undo 1 (some .int) [.ref (ad 0)] (wC ad G (T, n, mo, ver) (S, h) P Tr Rg Tx Rd) (fun u : Unit => wC ad G (va_cpy S T ((h - 1) * 122 + 2) 0 120, n', mo', ver + 1) (S, h - 1) P Tr Rg Tx Rd) (fun r u => xUndo h = 0 ∧ r = nI (h - 1)) (fun u : Unit => wC ad G (T, n, mo, ver) (S, h) P Tr Rg Tx Rd) (fun E u => (xUndo h = 1 ∧ E = sISE)) := by
  refine xi_of (by decide +kernel) (Nat.le_of_ble_eq_true rfl) ?_
  intro p e s m args below meth c A Q F hr hlk hQ hSF hSH htab
  refine v_st (w' := wC ad G (T, n, mo, ver) (S, h) P Tr Rg Tx Rd) (pc' := 0) (st' := []) rfl rfl rfl [0] (lv' := [(0, .ref (ad 0))]) rfl ?_
  refine v_aload_n F dX7_undo_0 0 rfl rfl ?_
  refine v_get (v := .ref (ad 2)) F inlX7 (ci := 7) rfl 1 (by decide) rfl wF_RX7_19 dX7_undo_1 0 rfl rfl ?_
  refine v_cVIF F cs_RX7_177 dX7_undo_4 2 (ci := 0) rfl rfl (m_X0_size lau G ad (T, n, mo, ver) S h P Tr Rg Tx Rd ) (by decide) rfl rfl (Nat.le_of_ble_eq_true rfl) ⟨Nat.zero_le _, Nat.zero_le _⟩ (fun r1 u2 w3 => ?_)
  subst w3
  refine v_if_ne F 20 dX7_undo_7 (by decide) (fun h0 => ?_) (fun h0 => ?_)
  · replace h0 := nEn (a := h) (b := 0) (by omega) (by decide) h0
    refine v_aload_n F dX7_undo_20 0 rfl rfl ?_
    refine v_get (v := .ref (ad 2)) F inlX7 (ci := 7) rfl 1 (by decide) rfl wF_RX7_19 dX7_undo_21 0 rfl rfl ?_
    refine v_aload_n F dX7_undo_24 0 rfl rfl ?_
    refine v_get (v := .ref (ad 1)) F inlX7 (ci := 7) rfl 0 (by decide) rfl wF_RX7_10 dX7_undo_25 0 rfl rfl ?_
    refine v_cVVF F cs_RX7_180 dX7_undo_28 2 (ci := 0) rfl rfl (m_X0_restore lau G ad T n mo ver S h P Tr Rg Tx Rd n' mo' (by omega) (by omega) (hn' (by omega)) (hmo' (by omega))) (by decide) rfl rfl (Nat.le_of_ble_eq_true rfl) ⟨Nat.zero_le _, Nat.zero_le _⟩ (fun u5 w6 => ?_)
    refine v_aload_n F dX7_undo_31 0 rfl rfl ?_
    refine v_get (v := .ref (ad 2)) F inlX7 (ci := 7) rfl 1 (by decide) rfl wF_RX7_19 dX7_undo_32 0 rfl rfl ?_
    refine v_cVIF F cs_RX7_177 dX7_undo_35 2 (ci := 0) rfl rfl (m_X0_size lau G ad (va_cpy S T ((h - 1) * 122 + 2) 0 120, n', mo', ver + 1) S (h - 1) P Tr Rg Tx Rd ) (by decide) rfl rfl (Nat.le_of_ble_eq_true rfl) ⟨Nat.zero_le _, Nat.zero_le _⟩ (fun r7 u8 w9 => ?_)
    subst w9
    exact v_iretX F hr hlk hQ dX7_undo_38 (()) rfl (by exact ⟨by simp [xUndo, *], rfl⟩)
  · replace h0 := nE (a := h) (b := 0) (by omega) (by decide) h0
    exact v_throw (text := "no state is saved") F hlk hQ hst hSF hSH htab (by decide +kernel) wL_RX7_71 wI_IllegalStateException (by decide) xg_ISE xb_ISE xo_ISE dX7_undo_10 dX7_undo_13 dX7_undo_14 dX7_undo_16 dX7_undo_19 (by decide) (Nat.le_of_ble_eq_true rfl) (by decide) (by decide) (()) rfl (by refine ⟨?_, rfl⟩; simp [xUndo, *])
