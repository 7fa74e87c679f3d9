set_option maxHeartbeats 400000 in
set_option maxRecDepth 100000 in
theorem m_Jxe99ae_isNaN_b9ae7 (lau : Launch) (G : GT) (v : UInt64) (hv : nzD v) : MI lau G 0 yJxe99ae_isNaN_b9ae7 cJxe99ae_isNaN_b9ae7 2 (some .boolean) [.double v] ([]) (fun u : Unit => []) (fun r u => r = bI false) := by
  refine mi_of (by decide +kernel) (Nat.le_of_ble_eq_true rfl) ?_
  intro p e s m args below meth c A Q F hr hlk hQ
  refine v_st (w' := []) (pc' := 0) (st' := []) rfl rfl rfl [0] (lv' := [(0, .double v)]) rfl ?_
  refine v_dload_n F dJxe99ae_isNaN_b9ae7_0 0 rfl rfl ?_
  refine v_dload_n F dJxe99ae_isNaN_b9ae7_1 0 rfl rfl ?_
  refine v_dcmp F dJxe99ae_isNaN_b9ae7_2 ?_
  refine v_topi (nI 0) (nzD_cmp hv) ?_
  refine v_if_eq F 10 dJxe99ae_isNaN_b9ae7_3 (by decide) (fun _ => ?_) (fun h => absurd h (by decide))
  refine v_iconst (v := nI 0) F dJxe99ae_isNaN_b9ae7_10 (by decide) ?_
  exact v_zret F hr hlk hQ rfl dJxe99ae_isNaN_b9ae7_11 (()) rfl (by rfl)
theorem cs_RJxe99ae_122 : CSS RJxe99ae 122 yJxe99ae_isNaN_b9ae7 cJxe99ae_isNaN_b9ae7 2 (some .boolean) 1 := ⟨wC_yJxe99ae_isNaN_b9ae7, wM_RJxe99ae_122, wSt_yJxe99ae_isNaN_b9ae7, wI_RJxe99ae, by decide +kernel, by decide⟩
set_option maxHeartbeats 400000 in
set_option maxRecDepth 100000 in
theorem m_Jxe99ae_doubleToLongBits_ccdee (lau : Launch) (G : GT) (v : UInt64) (hv : nzD v) : ML lau G 1 yJxe99ae_doubleToLongBits_ccdee cJxe99ae_doubleToLongBits_ccdee 2 (some .long) [.double v] ([]) (fun u : Unit => []) (fun r u => r = v.toInt64) := by
  refine ml_of (by decide +kernel) (Nat.le_of_ble_eq_true rfl) ?_
  intro p e s m args below meth c A Q F hr hlk hQ
  refine v_st (w' := []) (pc' := 0) (st' := []) rfl rfl rfl [0] (lv' := [(0, .double v)]) rfl ?_
  refine v_dload_n F dJxe99ae_doubleToLongBits_ccdee_0 0 rfl rfl ?_
  refine v_cSIE F cs_RJxe99ae_122 dJxe99ae_doubleToLongBits_ccdee_1 (m_Jxe99ae_isNaN_b9ae7 lau G v hv) (by decide) rfl rfl (Nat.le_of_ble_eq_true rfl) ⟨Nat.zero_le _, Nat.zero_le _⟩ (fun r1 u2 w3 => ?_)
  subst w3
  refine v_if_ne F 12 dJxe99ae_doubleToLongBits_ccdee_4 (by decide) (fun h => absurd h (by decide)) (fun _ => ?_)
  refine v_dload_n F dJxe99ae_doubleToLongBits_ccdee_7 0 rfl rfl ?_
  refine v_rawBits F wM_RJxe99ae_134 dJxe99ae_doubleToLongBits_ccdee_8 (by decide) (by decide) ?_
  exact v_lret F hr hlk hQ dJxe99ae_doubleToLongBits_ccdee_11 (()) rfl (by rfl)
theorem cs_RX8_225 : CSS RX8 225 yJxe99ae_doubleToLongBits_ccdee cJxe99ae_doubleToLongBits_ccdee 2 (some .long) 1 := ⟨wC_yJxe99ae_doubleToLongBits_ccdee, wM_RX8_225, wSt_yJxe99ae_doubleToLongBits_ccdee, wI_RJxe99ae, by decide +kernel, by decide⟩
set_option maxHeartbeats 1000000 in
set_option maxRecDepth 100000 in
theorem m_X8_digest (lau : Launch) (G : GT) (ad : Nat → Nat) (T : Nat → Int32) (n mo : Nat) (S : Nat → Int32) (h : Nat) (co : Nat → Int32) (len : Nat) (Tw : Nat) (Qs : QT) (ke sp : Nat → Int32) (Lo Wi : Nat → Int32) (hn : n ≤ 20) (hT : TOK T n) (hmo : mo < 100) (hX : TXOK co len) : ML lau G 9 yX8_digest cX8_digest 6 (some .long) [.ref (ad 0)] (wM ad G (snp T n mo) (S, h) (co, len) Tw Qs (ke, sp) Lo Wi) (fun u : MS => wM ad G u.1 u.2.1 u.2.2.1 (0) u.2.2.2.1 u.2.2.2.2.1 u.2.2.2.2.2.1 u.2.2.2.2.2.2) (fun r u => (0 = 0 → r = dgV T n mo h co len ∧ u.1 = snp T n mo ∧ u.2.1 = (S, h) ∧ u.2.2.1 = (co, len)) ∧ (¬ 0 = 0 → u.1 = snp T n mo ∧ u.2.1 = (S, h) ∧ u.2.2.1 = (co, len))) := by
  have hlen := hX.1
  have hrc := rc_le T n mo 64
  refine ml_of (by decide +kernel) (Nat.le_of_ble_eq_true rfl) ?_
  intro p e s m args below meth c A Q F hr hlk hQ
  refine v_st (w' := wM ad G (snp T n mo) (S, h) (co, len) Tw Qs (ke, sp) Lo Wi) (pc' := 0) (st' := []) rfl rfl rfl [0] (lv' := [(0, .ref (ad 0))]) rfl ?_
  refine v_aload_n F dX8_digest_0 0 rfl rfl ?_
  refine v_iconst (v := nI 0) F dX8_digest_1 (by decide) ?_
  refine v_put F inlX8 (ci := 8) rfl tyX8 tyX8_ok nmX8 5 (by decide) rfl rfl wF_RX8_35 dX8_digest_2 (ty := .int) (by decide +kernel) rfl rfl 0 rfl (Nat.le_of_ble_eq_true rfl) (wM ad G (snp T n mo) (S, h) (co, len) (0) Qs (ke, sp) Lo Wi) rfl ?_
  refine v_ldc2 F wK_RX8_221 dX8_digest_5 ?_
  refine v_lstore_n (lv' := [(1, .long 2591), (0, .ref (ad 0))]) F dX8_digest_8 1 rfl (by decide) rfl ?_
  refine v_iconst (v := nI 0) F dX8_digest_9 (by decide) ?_
  refine v_istore_n (lv' := [(3, .int (nI 0)), (1, .long 2591), (0, .ref (ad 0))]) F dX8_digest_10 3 rfl (by decide) rfl ?_
  have L11 : ∀ (k_ : Nat) (j : Nat) (b : Int64) (ke_ : Nat → Int32) (sp_ : Nat → Int32) (Lo_ : Nat → Int32) (Wi_ : Nat → Int32), 9 - j < k_ → (j ≤ 9) → (b = mxN (cntV T n mo h) 2591 j) → V p lau e (RM 9) s m args below meth c 6 G A Q (wM ad G (snp T n mo) (S, h) (co, len) (0) Qs (ke_, sp_) Lo_ Wi_) 0 0 11 [(3, .int (nI j)), (1, .long b), (0, .ref (ad 0))] [] := by
    intro k_
    induction k_ with
    | zero => exact fun j b ke_ sp_ Lo_ Wi_ hk_ hj hb => absurd hk_ (Nat.not_lt_zero _)
    | succ k_ ih11 =>
      intro j b ke_ sp_ Lo_ Wi_ hk_11 hj hb
      refine v_iload_n F dX8_digest_11 3 rfl rfl ?_
      refine v_bipush (v := nI 9) F dX8_digest_12 (by decide) ?_
      refine v_icmp_ge F 36 dX8_digest_14 (by decide) (fun c1 => ?_) (fun c1 => ?_)
      · replace c1 := nG (a := j) (b := 9) (by omega) (by decide) c1
        have hj9 : j = 9 := by omega
        subst hj9
        refine v_iconst (v := nI 0) F dX8_digest_36 (by decide) ?_
        refine v_istore_n (lv' := [(3, .int (nI 0)), (1, .long b), (0, .ref (ad 0))]) F dX8_digest_37 3 rfl (by decide) rfl ?_
        have L38 : ∀ (k_ : Nat) (l : Nat) (b : Int64) (ke_ : Nat → Int32) (sp_ : Nat → Int32) (Lo_ : Nat → Int32), n - l < k_ → (l ≤ n) → (b = dLi T n mo (mxN (cntV T n mo h) 2591 9) l) → V p lau e (RM 9) s m args below meth c 6 G A Q (wM ad G (snp T n mo) (S, h) (co, len) (0) Qs (ke_, sp_) Lo_ Wi_) 0 0 38 [(3, .int (nI l)), (1, .long b), (0, .ref (ad 0))] [] := by
          intro k_
          induction k_ with
          | zero => exact fun l b ke_ sp_ Lo_ hk_ hl hb => absurd hk_ (Nat.not_lt_zero _)
          | succ k_ ih38 =>
            intro l b ke_ sp_ Lo_ hk_38 hl hb
            refine v_iload_n F dX8_digest_38 3 rfl rfl ?_
            refine v_aload_n F dX8_digest_39 0 rfl rfl ?_
            refine v_get (v := .ref (ad 1)) F inlX8 (ci := 8) rfl 0 (by decide) rfl wF_RX8_7 dX8_digest_40 0 rfl rfl ?_
            refine v_iconst (v := nI 1) F dX8_digest_43 (by decide) ?_
            refine v_ialdN F dX8_digest_44 1 rfl 1 rfl (by omega) (by decide) ((snp T n mo) 1) rfl ?_
            refine v_topi (nI n) rfl ?_
            refine v_icmp_ge F 116 dX8_digest_45 (by decide) (fun c2 => ?_) (fun c2 => ?_)
            · replace c2 := nG (a := l) (b := n) (by omega) (by omega) c2
              have hln : n = l := by omega
              subst hln
              refine v_aload_n F dX8_digest_116 0 rfl rfl ?_
              refine v_cVVF F cs_RX8_171 dX8_digest_117 0 (ci := 8) rfl rfl (m_X8_grows lau G ad T n mo (S, h) (co, len) (0) Qs ke_ sp_ Lo_ Wi_ (by omega) hT) (by decide) rfl rfl (Nat.le_of_ble_eq_true rfl) ⟨Nat.zero_le _, Nat.zero_le _⟩ (fun u4 w5 => ?_)
              refine v_iconst (v := nI 1) F dX8_digest_120 (by decide) ?_
              refine v_istore_n (lv' := [(3, .int (nI 1)), (1, .long b), (0, .ref (ad 0))]) F dX8_digest_121 3 rfl (by decide) rfl ?_
              have L122 : ∀ (k_ : Nat) (i : Nat) (b : Int64), 127 - i < k_ → (i ≤ 127) → (b = dTr T n mo (dLi T n mo (mxN (cntV T n mo h) 2591 9) n) i) → V p lau e (RM 9) s m args below meth c 6 G A Q (wM ad G (snp T n mo) (S, h) (co, len) (0) Qs u4 Lo_ Wi_) 0 0 122 [(3, .int (nI (i + 1))), (1, .long b), (0, .ref (ad 0))] [] := by
                intro k_
                induction k_ with
                | zero => exact fun i b hk_ hi hb => absurd hk_ (Nat.not_lt_zero _)
                | succ k_ ih122 =>
                  intro i b hk_122 hi hb
                  refine v_iload_n F dX8_digest_122 3 rfl rfl ?_
                  refine v_sipush (v := nI 128) F dX8_digest_123 (by decide) ?_
                  refine v_icmp_ge F 212 dX8_digest_126 (by decide) (fun c6 => ?_) (fun c6 => ?_)
                  · replace c6 := nG (a := (i + 1)) (b := 128) (by omega) (by decide) c6
                    have hi9 : i = 127 := by omega
                    subst hi9
                    refine v_aload_n F dX8_digest_212 0 rfl rfl ?_
                    refine v_iconst (v := nI 0) F dX8_digest_213 (by decide) ?_
                    refine v_iconst (v := nI 3) F dX8_digest_214 (by decide) ?_
                    refine v_cVIF F cs_RX8_183 dX8_digest_215 0 (ci := 8) rfl rfl (m_X8_ofRow lau G ad T n mo (S, h) (co, len) (0) Qs u4 Lo_ Wi_ 0 3 (by decide) (by decide) (by omega)) (by decide) rfl rfl (Nat.le_of_ble_eq_true rfl) ⟨Nat.zero_le _, Nat.zero_le _⟩ (fun r7 u8 w9 => ?_)
                    refine v_topi (ofR T n mo 0 3) w9 ?_
                    refine v_topi (nI (rc T n mo 64)) (rfl) ?_
                    refine v_istore_n (lv' := [(3, .int (nI (rc T n mo 64))), (1, .long b), (0, .ref (ad 0))]) F dX8_digest_218 3 rfl (by decide) rfl ?_
                    refine v_iconst (v := nI 0) F dX8_digest_219 (by decide) ?_
                    refine v_istore (lv' := [(4, .int (nI 0)), (3, .int (nI (rc T n mo 64))), (1, .long b), (0, .ref (ad 0))]) F dX8_digest_220 (by decide) rfl ?_
                    have L222 : ∀ (k_ : Nat) (i : Nat) (b : Int64) (Lo_ : Nat → Int32), rc T n mo 64 - i < k_ → (i ≤ rc T n mo 64) → (b = dRo T n mo (dTr T n mo (dLi T n mo (mxN (cntV T n mo h) 2591 9) n) 127) i) → V p lau e (RM 9) s m args below meth c 6 G A Q (wM ad G (snp T n mo) (S, h) (co, len) (0) Qs u4 Lo_ Wi_) 0 0 222 [(4, .int (nI i)), (3, .int (nI (rc T n mo 64))), (1, .long b), (0, .ref (ad 0))] [] := by
                      intro k_
                      induction k_ with
                      | zero => exact fun i b Lo_ hk_ hi hb => absurd hk_ (Nat.not_lt_zero _)
                      | succ k_ ih222 =>
                        intro i b Lo_ hk_222 hi hb
                        refine v_iload F dX8_digest_222 rfl ?_
                        refine v_iload_n F dX8_digest_224 3 rfl rfl ?_
                        refine v_icmp_ge F 265 dX8_digest_225 (by decide) (fun c10 => ?_) (fun c10 => ?_)
                        · replace c10 := nG (a := i) (b := (rc T n mo 64)) (by omega) (by omega) c10
                          have hie : i = rc T n mo 64 := by omega
                          subst hie
                          refine v_ldc2 F wK_RX8_223 dX8_digest_265 ?_
                          refine v_lload_n F dX8_digest_268 1 rfl rfl ?_
                          refine v_lmul F dX8_digest_269 ?_
                          refine v_aload_n F dX8_digest_270 0 rfl rfl ?_
                          refine v_iconst (v := nI 0) F dX8_digest_271 (by decide) ?_
                          refine v_bipush (v := nI 63) F dX8_digest_272 (by decide) ?_
                          refine v_cVIF F cs_RX8_186 dX8_digest_274 0 (ci := 8) rfl rfl (m_X8_sumOf lau G ad T n mo (S, h) (co, len) (0) Qs u4 Lo_ Wi_ 0 63 (by decide) (by decide) (by omega)) (by decide) rfl rfl (Nat.le_of_ble_eq_true rfl) ⟨Nat.zero_le _, Nat.zero_le _⟩ (fun r11 u12 w13 => ?_)
                          refine v_topi ((sm T n mo 0 (63 + 1 - 0))) w13 ?_
                          refine v_i2l F dX8_digest_277 ?_
                          refine v_ladd F dX8_digest_278 ?_
                          refine v_lstore_n (lv' := [(1, .long ((31 * b) + (((sm T n mo 0 (63 + 1 - 0))).toInt64))), (4, .int (nI (rc T n mo 64))), (3, .int (nI (rc T n mo 64))), (0, .ref (ad 0))]) F dX8_digest_279 1 rfl (by decide) rfl ?_
                          refine v_iconst (v := nI 0) F dX8_digest_280 (by decide) ?_
                          refine v_istore (lv' := [(4, .int (nI 0)), (1, .long ((31 * b) + (((sm T n mo 0 (63 + 1 - 0))).toInt64))), (3, .int (nI (rc T n mo 64))), (0, .ref (ad 0))]) F dX8_digest_281 (by decide) rfl ?_
                          have L283 : ∀ (k_ : Nat) (k : Nat) (b : Int64), 4 - k < k_ → (k ≤ 4) → (b = dPl T n mo (31 * dRo T n mo (dTr T n mo (dLi T n mo (mxN (cntV T n mo h) 2591 9) n) 127) (rc T n mo 64) + (sm T n mo 0 64).toInt64) k) → V p lau e (RM 9) s m args below meth c 6 G A Q (wM ad G (snp T n mo) (S, h) (co, len) (0) Qs u4 u12 Wi_) 0 0 283 [(4, .int (nI (21 * k))), (1, .long b), (3, .int (nI (rc T n mo 64))), (0, .ref (ad 0))] [] := by
                            intro k_
                            induction k_ with
                            | zero => exact fun k b hk_ hk hb => absurd hk_ (Nat.not_lt_zero _)
                            | succ k_ ih283 =>
                              intro k b hk_283 hk hb
                              refine v_iload F dX8_digest_283 rfl ?_
                              refine v_bipush (v := nI 64) F dX8_digest_285 (by decide) ?_
                              refine v_icmp_ge F 340 dX8_digest_287 (by decide) (fun c14 => ?_) (fun c14 => ?_)
                              · replace c14 := nG (a := (21 * k)) (b := 64) (by omega) (by decide) c14
                                have hk9 : k = 4 := by omega
                                subst hk9
                                refine v_ldc2 F wK_RX8_223 dX8_digest_340 ?_
                                refine v_ldc2 F wK_RX8_223 dX8_digest_343 ?_
                                refine v_lload_n F dX8_digest_346 1 rfl rfl ?_
                                refine v_lmul F dX8_digest_347 ?_
                                refine v_aload_n F dX8_digest_348 0 rfl rfl ?_
                                refine v_iconst (v := nI 0) F dX8_digest_349 (by decide) ?_
                                refine v_iconst (v := nI 0) F dX8_digest_350 (by decide) ?_
                                refine v_cVIF F cs_RX8_202 dX8_digest_351 0 (ci := 8) rfl rfl (m_X8_placesOf lau G ad T n mo (S, h) (co, len) (0) Qs u4 u12 Wi_ (nI 0) (nI 0) (by omega)) (by decide) rfl rfl (Nat.le_of_ble_eq_true rfl) ⟨Nat.zero_le _, Nat.zero_le _⟩ (fun r15 u16 w17 => ?_)
                                refine v_topi (nI (ifa T n mo (nI 0) (nI 0) 64)) w17 ?_
                                refine v_i2l F dX8_digest_354 ?_
                                refine v_ladd F dX8_digest_355 ?_
                                refine v_lmul F dX8_digest_356 ?_
                                refine v_aload_n F dX8_digest_357 0 rfl rfl ?_
                                refine v_iconst (v := nI 1) F dX8_digest_358 (by decide) ?_
                                refine v_cVIF F cs_RX8_205 dX8_digest_359 0 (ci := 8) rfl rfl (m_X8_highestOf lau G ad T n mo (S, h) (co, len) (0) Qs u4 u16 Wi_ (nI 1) (by omega)) (by decide) rfl rfl (Nat.le_of_ble_eq_true rfl) ⟨Nat.zero_le _, Nat.zero_le _⟩ (fun r18 u19 w20 => ?_)
                                refine v_topi ((hiC T n mo (nI 1))) w20 ?_
                                refine v_i2l F dX8_digest_362 ?_
                                refine v_ladd F dX8_digest_363 ?_
                                refine v_lstore_n (lv' := [(1, .long ((31 * ((31 * b) + ((nI (ifa T n mo (nI 0) (nI 0) 64)).toInt64))) + (((hiC T n mo (nI 1))).toInt64))), (4, .int (nI (21 * 4))), (3, .int (nI (rc T n mo 64))), (0, .ref (ad 0))]) F dX8_digest_364 1 rfl (by decide) rfl ?_
                                refine v_ldc2 F wK_RX8_223 dX8_digest_365 ?_
                                refine v_ldc2 F wK_RX8_223 dX8_digest_368 ?_
                                refine v_lload_n F dX8_digest_371 1 rfl rfl ?_
                                refine v_lmul F dX8_digest_372 ?_
                                refine v_aload_n F dX8_digest_373 0 rfl rfl ?_
                                refine v_cVDF F cs_RX8_217 dX8_digest_374 0 (ci := 8) rfl rfl (m_X8_meanOf lau G ad T n mo (S, h) (co, len) (0) Qs u4 u19 Wi_ (by omega)) (by decide) rfl rfl (Nat.le_of_ble_eq_true rfl) ⟨Nat.zero_le _, Nat.zero_le _⟩ (fun r21 u22 w23 => ?_)
                                refine v_topd (meanV T n mo) w23 ?_
                                refine v_cSLE F cs_RX8_225 dX8_digest_377 (m_Jxe99ae_doubleToLongBits_ccdee lau G (meanV T n mo) (mean_nz T n mo)) (by decide) rfl rfl (Nat.le_of_ble_eq_true rfl) ⟨Nat.zero_le _, Nat.zero_le _⟩ (fun r24 u25 w26 => ?_)
                                subst w26
                                refine v_ladd F dX8_digest_380 ?_
                                refine v_lmul F dX8_digest_381 ?_
                                refine v_aload_n F dX8_digest_382 0 rfl rfl ?_
                                refine v_get (v := .int (nI len)) F inlX8 (ci := 8) rfl 4 (by decide) rfl wF_RX8_122 dX8_digest_383 0 rfl rfl ?_
                                refine v_i2l F dX8_digest_386 ?_
                                refine v_ladd F dX8_digest_387 ?_
                                refine v_lstore_n (lv' := [(1, .long ((31 * ((31 * ((31 * ((31 * b) + ((nI (ifa T n mo (nI 0) (nI 0) 64)).toInt64))) + (((hiC T n mo (nI 1))).toInt64))) + ((meanV T n mo).toInt64))) + ((nI len).toInt64))), (4, .int (nI (21 * 4))), (3, .int (nI (rc T n mo 64))), (0, .ref (ad 0))]) F dX8_digest_388 1 rfl (by decide) rfl ?_
                                refine v_iconst (v := nI 0) F dX8_digest_389 (by decide) ?_
                                refine v_istore (lv' := [(4, .int (nI 0)), (1, .long ((31 * ((31 * ((31 * ((31 * b) + ((nI (ifa T n mo (nI 0) (nI 0) 64)).toInt64))) + (((hiC T n mo (nI 1))).toInt64))) + ((meanV T n mo).toInt64))) + ((nI len).toInt64))), (3, .int (nI (rc T n mo 64))), (0, .ref (ad 0))]) F dX8_digest_390 (by decide) rfl ?_
                                have L392 : ∀ (k_ : Nat) (i : Nat) (b : Int64), len - i < k_ → (i ≤ len) → (b = mxN co (31 * (31 * (31 * (31 * dPs T n mo (dTr T n mo (dLi T n mo (mxN (cntV T n mo h) 2591 9) n) 127) + (nI (ifa T n mo (nI 0) (nI 0) 64)).toInt64) + (hiC T n mo (nI 1)).toInt64) + (meanV T n mo).toInt64) + (nI len).toInt64) i) → V p lau e (RM 9) s m args below meth c 6 G A Q (wM ad G (snp T n mo) (S, h) (co, len) (0) Qs u4 u22 Wi_) 0 0 392 [(4, .int (nI i)), (1, .long b), (3, .int (nI (rc T n mo 64))), (0, .ref (ad 0))] [] := by
                                  intro k_
                                  induction k_ with
                                  | zero => exact fun i b hk_ hi hb => absurd hk_ (Nat.not_lt_zero _)
                                  | succ k_ ih392 =>
                                    intro i b hk_392 hi hb
                                    refine v_iload F dX8_digest_392 rfl ?_
                                    refine v_aload_n F dX8_digest_394 0 rfl rfl ?_
                                    refine v_get (v := .int (nI len)) F inlX8 (ci := 8) rfl 4 (by decide) rfl wF_RX8_122 dX8_digest_395 0 rfl rfl ?_
                                    refine v_icmp_ge F 422 dX8_digest_398 (by decide) (fun c27 => ?_) (fun c27 => ?_)
                                    · replace c27 := nG (a := i) (b := len) (by omega) (by omega) c27
                                      refine v_lload_n F dX8_digest_422 1 rfl rfl ?_
                                      exact v_lret F hr hlk hQ dX8_digest_423 (((snp T n mo), (S, h), (co, len), Qs, u4, u22, Wi_)) rfl (by first | (refine ⟨fun q => absurd q ?_, fun _ => ⟨rfl, rfl, rfl⟩⟩; simp; done) | (refine ⟨fun _ => ⟨?_, ?_, ?_, ?_⟩, fun q => absurd ?_ q⟩; (rw [hb, show i = len by omega, dgV]); (rfl); (rfl); (rfl); simp; done))
                                    · replace c27 := nGn (a := i) (b := len) (by omega) (by omega) c27
                                      refine v_ldc2 F wK_RX8_223 dX8_digest_401 ?_
                                      refine v_lload_n F dX8_digest_404 1 rfl rfl ?_
                                      refine v_lmul F dX8_digest_405 ?_
                                      refine v_aload_n F dX8_digest_406 0 rfl rfl ?_
                                      refine v_get (v := .ref (ad 3)) F inlX8 (ci := 8) rfl 3 (by decide) rfl wF_RX8_16 dX8_digest_407 0 rfl rfl ?_
                                      refine v_iload F dX8_digest_410 rfl ?_
                                      refine v_ialdN F dX8_digest_412 3 rfl i rfl (by omega) (by decide) (co i) rfl ?_
                                      refine v_i2l F dX8_digest_413 ?_
                                      refine v_ladd F dX8_digest_414 ?_
                                      refine v_lstore_n (lv' := [(1, .long ((31 * b) + (((co i)).toInt64))), (4, .int (nI i)), (3, .int (nI (rc T n mo 64))), (0, .ref (ad 0))]) F dX8_digest_415 1 rfl (by decide) rfl ?_
                                      refine v_iinc (lv' := [(4, .int (nI (i + 1))), (1, .long ((31 * b) + (((co i)).toInt64))), (3, .int (nI (rc T n mo 64))), (0, .ref (ad 0))]) F (nI (i + 1)) dX8_digest_416 rfl (nI_add i 1) (by decide) rfl ?_
                                      refine v_goto F 392 dX8_digest_419 (by decide) ?_
                                      refine v_st (w' := wM ad G (snp T n mo) (S, h) (co, len) (0) Qs u4 u22 Wi_) (pc' := 392) (st' := []) rfl rfl rfl [0, 1, 2, 3] (lv' := [(4, .int (nI (i + 1))), (1, .long ((31 * b) + (((co i)).toInt64))), (3, .int (nI (rc T n mo 64))), (0, .ref (ad 0))]) rfl ?_
                                      exact ih392 (i + 1) ((31 * b) + (((co i)).toInt64)) (by omega) (by omega) (by rw [hb]; exact mxN_s _ _ _)
                                refine v_st (w' := wM ad G (snp T n mo) (S, h) (co, len) (0) Qs u4 u22 Wi_) (pc' := 392) (st' := []) rfl rfl rfl [0, 1, 2, 3] (lv' := [(4, .int (nI 0)), (1, .long ((31 * ((31 * ((31 * ((31 * b) + ((nI (ifa T n mo (nI 0) (nI 0) 64)).toInt64))) + (((hiC T n mo (nI 1))).toInt64))) + ((meanV T n mo).toInt64))) + ((nI len).toInt64))), (3, .int (nI (rc T n mo 64))), (0, .ref (ad 0))]) rfl ?_
                                exact L392 _ 0 ((31 * ((31 * ((31 * ((31 * b) + ((nI (ifa T n mo (nI 0) (nI 0) 64)).toInt64))) + (((hiC T n mo (nI 1))).toInt64))) + ((meanV T n mo).toInt64))) + ((nI len).toInt64)) (Nat.lt_succ_self _) (by omega) (by rw [hb, dPs_e]; exact (mxN_0 _ _).symm)
                              · replace c14 := nGn (a := (21 * k)) (b := 64) (by omega) (by decide) c14
                                refine v_ldc2 F wK_RX8_223 dX8_digest_290 ?_
                                refine v_lload_n F dX8_digest_293 1 rfl rfl ?_
                                refine v_lmul F dX8_digest_294 ?_
                                refine v_aload_n F dX8_digest_295 0 rfl rfl ?_
                                refine v_iload F dX8_digest_296 rfl ?_
                                refine v_bipush (v := nI 50) F dX8_digest_298 (by decide) ?_
                                refine v_iconst (v := (-1)) F dX8_digest_300 (by decide) ?_
                                refine v_cVIF F cs_RX8_60 dX8_digest_301 0 (ci := 8) rfl rfl (m_X8_lowestBut lau G ad T n mo (S, h) (co, len) (0) Qs u4 u12 Wi_ (21 * k) 50 (-1) (by omega)) (by decide) rfl rfl (Nat.le_of_ble_eq_true rfl) ⟨Nat.zero_le _, Nat.zero_le _⟩ (fun r28 u29 w30 => ?_)
                                subst w30
                                refine v_i2l F dX8_digest_304 ?_
                                refine v_ladd F dX8_digest_305 ?_
                                refine v_lstore_n (lv' := [(1, .long ((31 * b) + (((oI (lb T (21 * k) 50 ((-1)) n))).toInt64))), (4, .int (nI (21 * k))), (3, .int (nI (rc T n mo 64))), (0, .ref (ad 0))]) F dX8_digest_306 1 rfl (by decide) rfl ?_
                                refine v_ldc2 F wK_RX8_223 dX8_digest_307 ?_
                                refine v_ldc2 F wK_RX8_223 dX8_digest_310 ?_
                                refine v_lload_n F dX8_digest_313 1 rfl rfl ?_
                                refine v_lmul F dX8_digest_314 ?_
                                refine v_aload_n F dX8_digest_315 0 rfl rfl ?_
                                refine v_iload F dX8_digest_316 rfl ?_
                                refine v_iconst (v := nI 1) F dX8_digest_318 (by decide) ?_
                                refine v_cVIF F cs_RX8_177 dX8_digest_319 0 (ci := 8) rfl rfl (m_X8_rankedAt lau G ad T n mo (S, h) (co, len) (0) Qs u4 u12 Wi_ (21 * k) 1 (by decide) (by omega)) (by decide) rfl rfl (Nat.le_of_ble_eq_true rfl) ⟨Nat.zero_le _, Nat.zero_le _⟩ (fun r31 u32 w33 => ?_)
                                refine v_topi ((rkV T n mo (21 * k) 1)) w33 ?_
                                refine v_i2l F dX8_digest_322 ?_
                                refine v_ladd F dX8_digest_323 ?_
                                refine v_lmul F dX8_digest_324 ?_
                                refine v_aload_n F dX8_digest_325 0 rfl rfl ?_
                                refine v_iload F dX8_digest_326 rfl ?_
                                refine v_cVIF F cs_RX8_211 dX8_digest_328 0 (ci := 8) rfl rfl (m_X8_changeAt lau G ad T n mo (S, h) (co, len) (0) Qs u4 u12 Wi_ (21 * k) (by omega) (by omega)) (by decide) rfl rfl (Nat.le_of_ble_eq_true rfl) ⟨Nat.zero_le _, Nat.zero_le _⟩ (fun r34 u35 w36 => ?_)
                                refine v_topi ((chA T n mo (21 * k))) w36 ?_
                                refine v_i2l F dX8_digest_331 ?_
                                refine v_ladd F dX8_digest_332 ?_
                                refine v_lstore_n (lv' := [(1, .long ((31 * ((31 * ((31 * b) + (((oI (lb T (21 * k) 50 ((-1)) n))).toInt64))) + (((rkV T n mo (21 * k) 1)).toInt64))) + (((chA T n mo (21 * k))).toInt64))), (4, .int (nI (21 * k))), (3, .int (nI (rc T n mo 64))), (0, .ref (ad 0))]) F dX8_digest_333 1 rfl (by decide) rfl ?_
                                refine v_iinc (lv' := [(4, .int (nI ((21 * k) + 21))), (1, .long ((31 * ((31 * ((31 * b) + (((oI (lb T (21 * k) 50 ((-1)) n))).toInt64))) + (((rkV T n mo (21 * k) 1)).toInt64))) + (((chA T n mo (21 * k))).toInt64))), (3, .int (nI (rc T n mo 64))), (0, .ref (ad 0))]) F (nI ((21 * k) + 21)) dX8_digest_334 rfl (nI_add (21 * k) 21) (by decide) rfl ?_
                                refine v_goto F 283 dX8_digest_337 (by decide) ?_
                                refine v_st (w' := wM ad G (snp T n mo) (S, h) (co, len) (0) Qs u4 u12 Wi_) (pc' := 283) (st' := []) rfl rfl rfl [0, 1, 2, 3] (lv' := [(4, .int (nI ((21 * k) + 21))), (1, .long ((31 * ((31 * ((31 * b) + (((oI (lb T (21 * k) 50 ((-1)) n))).toInt64))) + (((rkV T n mo (21 * k) 1)).toInt64))) + (((chA T n mo (21 * k))).toInt64))), (3, .int (nI (rc T n mo 64))), (0, .ref (ad 0))]) rfl ?_
                                exact ih283 (k + 1) ((31 * ((31 * ((31 * b) + (((oI (lb T (21 * k) 50 ((-1)) n))).toInt64))) + (((rkV T n mo (21 * k) 1)).toInt64))) + (((chA T n mo (21 * k))).toInt64)) (by omega) (by omega) (by rw [hb]; exact dPl_s _ _ _ _ _)
                          refine v_st (w' := wM ad G (snp T n mo) (S, h) (co, len) (0) Qs u4 u12 Wi_) (pc' := 283) (st' := []) rfl rfl rfl [0, 1, 2, 3] (lv' := [(4, .int (nI 0)), (1, .long ((31 * b) + (((sm T n mo 0 (63 + 1 - 0))).toInt64))), (3, .int (nI (rc T n mo 64))), (0, .ref (ad 0))]) rfl ?_
                          exact L283 _ 0 ((31 * b) + (((sm T n mo 0 (63 + 1 - 0))).toInt64)) (Nat.lt_succ_self _) (by omega) (by rw [hb]; exact (dPl_z _ _ _ _).symm)
                        · replace c10 := nGn (a := i) (b := (rc T n mo 64)) (by omega) (by omega) c10
                          refine v_iconst (v := nI 0) F dX8_digest_228 (by decide) ?_
                          refine v_istore (lv' := [(5, .int (nI 0)), (4, .int (nI i)), (3, .int (nI (rc T n mo 64))), (1, .long b), (0, .ref (ad 0))]) F dX8_digest_229 (by decide) rfl ?_
                          have L231 : ∀ (k_ : Nat) (j : Nat) (b : Int64) (Lo_ : Nat → Int32), 3 - j < k_ → (j ≤ 3) → (b = mxN (rowV T n mo i) (dRo T n mo (dTr T n mo (dLi T n mo (mxN (cntV T n mo h) 2591 9) n) 127) i) j) → V p lau e (RM 9) s m args below meth c 6 G A Q (wM ad G (snp T n mo) (S, h) (co, len) (0) Qs u4 Lo_ Wi_) 0 0 231 [(5, .int (nI j)), (4, .int (nI i)), (3, .int (nI (rc T n mo 64))), (1, .long b), (0, .ref (ad 0))] [] := by
                            intro k_
                            induction k_ with
                            | zero => exact fun j b Lo_ hk_ hj hb => absurd hk_ (Nat.not_lt_zero _)
                            | succ k_ ih231 =>
                              intro j b Lo_ hk_231 hj hb
                              refine v_iload F dX8_digest_231 rfl ?_
                              refine v_iconst (v := nI 3) F dX8_digest_233 (by decide) ?_
                              refine v_icmp_ge F 259 dX8_digest_234 (by decide) (fun c37 => ?_) (fun c37 => ?_)
                              · replace c37 := nG (a := j) (b := 3) (by omega) (by decide) c37
                                have hj9 : j = 3 := by omega
                                subst hj9
                                refine v_iinc (lv' := [(4, .int (nI (i + 1))), (5, .int (nI 3)), (3, .int (nI (rc T n mo 64))), (1, .long b), (0, .ref (ad 0))]) F (nI (i + 1)) dX8_digest_259 rfl (nI_add i 1) (by decide) rfl ?_
                                refine v_goto F 222 dX8_digest_262 (by decide) ?_
                                refine v_st (w' := wM ad G (snp T n mo) (S, h) (co, len) (0) Qs u4 Lo_ Wi_) (pc' := 222) (st' := []) rfl rfl rfl [0, 2, 3, 4] (lv' := [(4, .int (nI (i + 1))), (3, .int (nI (rc T n mo 64))), (1, .long b), (0, .ref (ad 0))]) rfl ?_
                                exact ih222 (i + 1) b Lo_ (by omega) (by omega) (hb.trans (dRo_s _ _ _ _ _))
                              · replace c37 := nGn (a := j) (b := 3) (by omega) (by decide) c37
                                refine v_ldc2 F wK_RX8_223 dX8_digest_237 ?_
                                refine v_lload_n F dX8_digest_240 1 rfl rfl ?_
                                refine v_lmul F dX8_digest_241 ?_
                                refine v_aload_n F dX8_digest_242 0 rfl rfl ?_
                                refine v_iload F dX8_digest_243 rfl ?_
                                refine v_iload F dX8_digest_245 rfl ?_
                                refine v_cVIF F cs_RX8_183 dX8_digest_247 0 (ci := 8) rfl rfl (m_X8_ofRow lau G ad T n mo (S, h) (co, len) (0) Qs u4 Lo_ Wi_ i j (by omega) (by omega) (by omega)) (by decide) rfl rfl (Nat.le_of_ble_eq_true rfl) ⟨Nat.zero_le _, Nat.zero_le _⟩ (fun r38 u39 w40 => ?_)
                                refine v_topi (ofR T n mo i j) w40 ?_
                                refine v_topi ((rowV T n mo i j)) (if_neg (by omega)) ?_
                                refine v_i2l F dX8_digest_250 ?_
                                refine v_ladd F dX8_digest_251 ?_
                                refine v_lstore_n (lv' := [(1, .long ((31 * b) + (((rowV T n mo i j)).toInt64))), (5, .int (nI j)), (4, .int (nI i)), (3, .int (nI (rc T n mo 64))), (0, .ref (ad 0))]) F dX8_digest_252 1 rfl (by decide) rfl ?_
                                refine v_iinc (lv' := [(5, .int (nI (j + 1))), (1, .long ((31 * b) + (((rowV T n mo i j)).toInt64))), (4, .int (nI i)), (3, .int (nI (rc T n mo 64))), (0, .ref (ad 0))]) F (nI (j + 1)) dX8_digest_253 rfl (nI_add j 1) (by decide) rfl ?_
                                refine v_goto F 231 dX8_digest_256 (by decide) ?_
                                refine v_st (w' := wM ad G (snp T n mo) (S, h) (co, len) (0) Qs u4 u39 Wi_) (pc' := 231) (st' := []) rfl rfl rfl [0, 2, 3, 1, 4] (lv' := [(5, .int (nI (j + 1))), (4, .int (nI i)), (3, .int (nI (rc T n mo 64))), (1, .long ((31 * b) + (((rowV T n mo i j)).toInt64))), (0, .ref (ad 0))]) rfl ?_
                                exact ih231 (j + 1) ((31 * b) + (((rowV T n mo i j)).toInt64)) u39 (by omega) (by omega) (by rw [hb]; exact mxN_s _ _ _)
                          refine v_st (w' := wM ad G (snp T n mo) (S, h) (co, len) (0) Qs u4 Lo_ Wi_) (pc' := 231) (st' := []) rfl rfl rfl [0, 1, 2, 3, 4] (lv' := [(5, .int (nI 0)), (4, .int (nI i)), (3, .int (nI (rc T n mo 64))), (1, .long b), (0, .ref (ad 0))]) rfl ?_
                          exact L231 _ 0 b Lo_ (Nat.lt_succ_self _) (by omega) (hb.trans (mxN_0 _ _).symm)
                    refine v_st (w' := wM ad G (snp T n mo) (S, h) (co, len) (0) Qs u4 u8 Wi_) (pc' := 222) (st' := []) rfl rfl rfl [0, 1, 2, 3] (lv' := [(4, .int (nI 0)), (3, .int (nI (rc T n mo 64))), (1, .long b), (0, .ref (ad 0))]) rfl ?_
                    exact L222 _ 0 b u8 (Nat.lt_succ_self _) (by omega) (hb.trans (dRo_z _ _ _ _).symm)
                  · replace c6 := nGn (a := (i + 1)) (b := 128) (by omega) (by decide) c6
                    refine v_aload_n F dX8_digest_129 0 rfl rfl ?_
                    refine v_get (v := .ref (ad 5)) F inlX8 (ci := 8) rfl 11 (by decide) rfl wF_RX8_22 dX8_digest_130 0 rfl rfl ?_
                    refine v_iload_n F dX8_digest_133 3 rfl rfl ?_
                    refine v_ialdN F dX8_digest_134 5 rfl (i + 1) rfl (by omega) (by decide) (u4.1 (i + 1)) rfl ?_
                    refine v_topi ((kp T n mo (i + 1))) ((w5 _ (by omega)).1) ?_
                    refine v_iconst (v := (-1)) F dX8_digest_135 (by decide) ?_
                    refine v_icmp_eq F 206 dX8_digest_136 (by decide) (fun c41 => ?_) (fun c41 => ?_)
                    · have hbn := hb.trans (dTr_0 c41)
                      refine v_iinc (lv' := [(3, .int (nI ((i + 1) + 1))), (1, .long b), (0, .ref (ad 0))]) F (nI ((i + 1) + 1)) dX8_digest_206 rfl (nI_add (i + 1) 1) (by decide) rfl ?_
                      refine v_goto F 122 dX8_digest_209 (by decide) ?_
                      refine v_st (w' := wM ad G (snp T n mo) (S, h) (co, len) (0) Qs u4 Lo_ Wi_) (pc' := 122) (st' := []) rfl rfl rfl [0, 1, 2] (lv' := [(3, .int (nI ((i + 1) + 1))), (1, .long b), (0, .ref (ad 0))]) rfl ?_
                      exact ih122 (i + 1) b (by omega) (by omega) (hbn)
                    · have hbn := dTr_b hb c41
                      refine v_ldc2 F wK_RX8_223 dX8_digest_139 ?_
                      refine v_ldc2 F wK_RX8_223 dX8_digest_142 ?_
                      refine v_lload_n F dX8_digest_145 1 rfl rfl ?_
                      refine v_lmul F dX8_digest_146 ?_
                      refine v_iload_n F dX8_digest_147 3 rfl rfl ?_
                      refine v_i2l F dX8_digest_148 ?_
                      refine v_ladd F dX8_digest_149 ?_
                      refine v_lmul F dX8_digest_150 ?_
                      refine v_aload_n F dX8_digest_151 0 rfl rfl ?_
                      refine v_get (v := .ref (ad 5)) F inlX8 (ci := 8) rfl 11 (by decide) rfl wF_RX8_22 dX8_digest_152 0 rfl rfl ?_
                      refine v_iload_n F dX8_digest_155 3 rfl rfl ?_
                      refine v_ialdN F dX8_digest_156 5 rfl (i + 1) rfl (by omega) (by decide) (u4.1 (i + 1)) rfl ?_
                      refine v_topi ((kp T n mo (i + 1))) ((w5 _ (by omega)).1) ?_
                      refine v_i2l F dX8_digest_157 ?_
                      refine v_ladd F dX8_digest_158 ?_
                      refine v_lstore_n (lv' := [(1, .long ((31 * ((31 * b) + ((nI (i + 1)).toInt64))) + (((kp T n mo (i + 1))).toInt64))), (3, .int (nI (i + 1))), (0, .ref (ad 0))]) F dX8_digest_159 1 rfl (by decide) rfl ?_
                      refine v_ldc2 F wK_RX8_223 dX8_digest_160 ?_
                      refine v_ldc2 F wK_RX8_223 dX8_digest_163 ?_
                      refine v_lload_n F dX8_digest_166 1 rfl rfl ?_
                      refine v_lmul F dX8_digest_167 ?_
                      refine v_iload_n F dX8_digest_168 3 rfl rfl ?_
                      refine v_cSIE F cs_RX8_99 dX8_digest_169 (m_X8_firstOf lau G (i + 1) (by omega) (by omega)) (by decide) rfl rfl (Nat.le_of_ble_eq_true rfl) ⟨Nat.zero_le _, Nat.zero_le _⟩ (fun r42 u43 w44 => ?_)
                      subst w44
                      refine v_i2l F dX8_digest_172 ?_
                      refine v_ladd F dX8_digest_173 ?_
                      refine v_lmul F dX8_digest_174 ?_
                      refine v_iload_n F dX8_digest_175 3 rfl rfl ?_
                      refine v_cSIE F cs_RX8_105 dX8_digest_176 (m_X8_lastOf lau G (i + 1) (by omega) (by omega)) (by decide) rfl rfl (Nat.le_of_ble_eq_true rfl) ⟨Nat.zero_le _, Nat.zero_le _⟩ (fun r45 u46 w47 => ?_)
                      subst w47
                      refine v_i2l F dX8_digest_179 ?_
                      refine v_ladd F dX8_digest_180 ?_
                      refine v_lstore_n (lv' := [(1, .long ((31 * ((31 * ((31 * ((31 * b) + ((nI (i + 1)).toInt64))) + (((kp T n mo (i + 1))).toInt64))) + ((nI (gF (i + 1))).toInt64))) + ((nI (gL (i + 1))).toInt64))), (3, .int (nI (i + 1))), (0, .ref (ad 0))]) F dX8_digest_181 1 rfl (by decide) rfl ?_
                      refine v_ldc2 F wK_RX8_223 dX8_digest_182 ?_
                      refine v_ldc2 F wK_RX8_223 dX8_digest_185 ?_
                      refine v_lload_n F dX8_digest_188 1 rfl rfl ?_
                      refine v_lmul F dX8_digest_189 ?_
                      refine v_iload_n F dX8_digest_190 3 rfl rfl ?_
                      refine v_cSIE F cs_RX8_108 dX8_digest_191 (m_X8_middleOf lau G (i + 1) (by omega) (by omega)) (by decide) rfl rfl (Nat.le_of_ble_eq_true rfl) ⟨Nat.zero_le _, Nat.zero_le _⟩ (fun r48 u49 w50 => ?_)
                      subst w50
                      refine v_i2l F dX8_digest_194 ?_
                      refine v_ladd F dX8_digest_195 ?_
                      refine v_lmul F dX8_digest_196 ?_
                      refine v_aload_n F dX8_digest_197 0 rfl rfl ?_
                      refine v_get (v := .ref (ad 6)) F inlX8 (ci := 8) rfl 12 (by decide) rfl wF_RX8_25 dX8_digest_198 0 rfl rfl ?_
                      refine v_iload_n F dX8_digest_201 3 rfl rfl ?_
                      refine v_ialdN F dX8_digest_202 6 rfl (i + 1) rfl (by omega) (by decide) (u4.2 (i + 1)) rfl ?_
                      refine v_topi ((stp T n mo (i + 1))) ((w5 _ (by omega)).2) ?_
                      refine v_i2l F dX8_digest_203 ?_
                      refine v_ladd F dX8_digest_204 ?_
                      refine v_lstore_n (lv' := [(1, .long ((31 * ((31 * ((31 * ((31 * ((31 * ((31 * b) + ((nI (i + 1)).toInt64))) + (((kp T n mo (i + 1))).toInt64))) + ((nI (gF (i + 1))).toInt64))) + ((nI (gL (i + 1))).toInt64))) + ((nI (mdO (i + 1))).toInt64))) + (((stp T n mo (i + 1))).toInt64))), (3, .int (nI (i + 1))), (0, .ref (ad 0))]) F dX8_digest_205 1 rfl (by decide) rfl ?_
                      refine v_iinc (lv' := [(3, .int (nI ((i + 1) + 1))), (1, .long ((31 * ((31 * ((31 * ((31 * ((31 * ((31 * b) + ((nI (i + 1)).toInt64))) + (((kp T n mo (i + 1))).toInt64))) + ((nI (gF (i + 1))).toInt64))) + ((nI (gL (i + 1))).toInt64))) + ((nI (mdO (i + 1))).toInt64))) + (((stp T n mo (i + 1))).toInt64))), (0, .ref (ad 0))]) F (nI ((i + 1) + 1)) dX8_digest_206 rfl (nI_add (i + 1) 1) (by decide) rfl ?_
                      refine v_goto F 122 dX8_digest_209 (by decide) ?_
                      refine v_st (w' := wM ad G (snp T n mo) (S, h) (co, len) (0) Qs u4 Lo_ Wi_) (pc' := 122) (st' := []) rfl rfl rfl [0, 1, 2] (lv' := [(3, .int (nI ((i + 1) + 1))), (1, .long ((31 * ((31 * ((31 * ((31 * ((31 * ((31 * b) + ((nI (i + 1)).toInt64))) + (((kp T n mo (i + 1))).toInt64))) + ((nI (gF (i + 1))).toInt64))) + ((nI (gL (i + 1))).toInt64))) + ((nI (mdO (i + 1))).toInt64))) + (((stp T n mo (i + 1))).toInt64))), (0, .ref (ad 0))]) rfl ?_
                      exact ih122 (i + 1) ((31 * ((31 * ((31 * ((31 * ((31 * ((31 * b) + ((nI (i + 1)).toInt64))) + (((kp T n mo (i + 1))).toInt64))) + ((nI (gF (i + 1))).toInt64))) + ((nI (gL (i + 1))).toInt64))) + ((nI (mdO (i + 1))).toInt64))) + (((stp T n mo (i + 1))).toInt64)) (by omega) (by omega) (hbn)
              refine v_st (w' := wM ad G (snp T n mo) (S, h) (co, len) (0) Qs u4 Lo_ Wi_) (pc' := 122) (st' := []) rfl rfl rfl [0, 1, 2] (lv' := [(3, .int (nI 1)), (1, .long b), (0, .ref (ad 0))]) rfl ?_
              exact L122 _ 0 b (Nat.lt_succ_self _) (by omega) (hb.trans (dTr_z _ _ _ _).symm)
            · replace c2 := nGn (a := l) (b := n) (by omega) (by omega) c2
              refine v_iconst (v := nI 0) F dX8_digest_48 (by decide) ?_
              refine v_istore (lv' := [(4, .int (nI 0)), (3, .int (nI l)), (1, .long b), (0, .ref (ad 0))]) F dX8_digest_49 (by decide) rfl ?_
              have L51 : ∀ (k_ : Nat) (j : Nat) (b : Int64) (ke_ : Nat → Int32) (sp_ : Nat → Int32) (Lo_ : Nat → Int32), 9 - j < k_ → (j ≤ 9) → (b = mxN (linV T n mo l) (dLi T n mo (mxN (cntV T n mo h) 2591 9) l) j) → V p lau e (RM 9) s m args below meth c 6 G A Q (wM ad G (snp T n mo) (S, h) (co, len) (0) Qs (ke_, sp_) Lo_ Wi_) 0 0 51 [(4, .int (nI j)), (3, .int (nI l)), (1, .long b), (0, .ref (ad 0))] [] := by
                intro k_
                induction k_ with
                | zero => exact fun j b ke_ sp_ Lo_ hk_ hj hb => absurd hk_ (Nat.not_lt_zero _)
                | succ k_ ih51 =>
                  intro j b ke_ sp_ Lo_ hk_51 hj hb
                  refine v_iload F dX8_digest_51 rfl ?_
                  refine v_bipush (v := nI 9) F dX8_digest_53 (by decide) ?_
                  refine v_icmp_ge F 79 dX8_digest_55 (by decide) (fun c51 => ?_) (fun c51 => ?_)
                  · replace c51 := nG (a := j) (b := 9) (by omega) (by decide) c51
                    have hj9 : j = 9 := by omega
                    subst hj9
                    refine v_ldc2 F wK_RX8_223 dX8_digest_79 ?_
                    refine v_lload_n F dX8_digest_82 1 rfl rfl ?_
                    refine v_lmul F dX8_digest_83 ?_
                    refine v_aload_n F dX8_digest_84 0 rfl rfl ?_
                    refine v_iload_n F dX8_digest_85 3 rfl rfl ?_
                    refine v_cVIF F cs_RX8_208 dX8_digest_86 0 (ci := 8) rfl rfl (m_X8_worthOf lau G ad T n mo (S, h) (co, len) (0) Qs (ke_, sp_) Lo_ Wi_ l (by omega) (by omega)) (by decide) rfl rfl (Nat.le_of_ble_eq_true rfl) ⟨Nat.zero_le _, Nat.zero_le _⟩ (fun r52 u53 w54 => ?_)
                    refine v_topi ((woV T n mo l)) w54 ?_
                    refine v_i2l F dX8_digest_89 ?_
                    refine v_ladd F dX8_digest_90 ?_
                    refine v_lstore_n (lv' := [(1, .long ((31 * b) + (((woV T n mo l)).toInt64))), (4, .int (nI 9)), (3, .int (nI l)), (0, .ref (ad 0))]) F dX8_digest_91 1 rfl (by decide) rfl ?_
                    refine v_iload_n F dX8_digest_92 3 rfl rfl ?_
                    refine v_if_le F 110 dX8_digest_93 (by decide) (fun c55 => ?_) (fun c55 => ?_)
                    · replace c55 := nK (a := l) (b := 0) (by omega) (by decide) c55
                      have hbn := dLi_a hb c55
                      refine v_iinc (lv' := [(3, .int (nI (l + 1))), (1, .long ((31 * b) + (((woV T n mo l)).toInt64))), (4, .int (nI 9)), (0, .ref (ad 0))]) F (nI (l + 1)) dX8_digest_110 rfl (nI_add l 1) (by decide) rfl ?_
                      refine v_goto F 38 dX8_digest_113 (by decide) ?_
                      refine v_st (w' := wM ad G (snp T n mo) (S, h) (co, len) (0) Qs (ke_, sp_) u53 Wi_) (pc' := 38) (st' := []) rfl rfl rfl [0, 1, 3] (lv' := [(3, .int (nI (l + 1))), (1, .long ((31 * b) + (((woV T n mo l)).toInt64))), (0, .ref (ad 0))]) rfl ?_
                      exact ih38 (l + 1) ((31 * b) + (((woV T n mo l)).toInt64)) ke_ sp_ u53 (by omega) (by omega) (hbn)
                    · replace c55 := nKn (a := l) (b := 0) (by omega) (by decide) c55
                      have hbn := dLi_b hb c55
                      refine v_ldc2 F wK_RX8_223 dX8_digest_96 ?_
                      refine v_lload_n F dX8_digest_99 1 rfl rfl ?_
                      refine v_lmul F dX8_digest_100 ?_
                      refine v_aload_n F dX8_digest_101 0 rfl rfl ?_
                      refine v_iload_n F dX8_digest_102 3 rfl rfl ?_
                      refine v_iconst (v := nI 0) F dX8_digest_103 (by decide) ?_
                      refine v_cVIF F cs_RX8_214 dX8_digest_104 0 (ci := 8) rfl rfl (m_X8_meetOf lau G ad T n mo (S, h) (co, len) (0) Qs (ke_, sp_) u53 Wi_ l 0 (by omega) (by omega) (by omega)) (by decide) rfl rfl (Nat.le_of_ble_eq_true rfl) ⟨Nat.zero_le _, Nat.zero_le _⟩ (fun r56 u57 w58 => ?_)
                      refine v_topi ((meV T l 0)) w58 ?_
                      refine v_i2l F dX8_digest_107 ?_
                      refine v_ladd F dX8_digest_108 ?_
                      refine v_lstore_n (lv' := [(1, .long ((31 * ((31 * b) + (((woV T n mo l)).toInt64))) + (((meV T l 0)).toInt64))), (4, .int (nI 9)), (3, .int (nI l)), (0, .ref (ad 0))]) F dX8_digest_109 1 rfl (by decide) rfl ?_
                      refine v_iinc (lv' := [(3, .int (nI (l + 1))), (1, .long ((31 * ((31 * b) + (((woV T n mo l)).toInt64))) + (((meV T l 0)).toInt64))), (4, .int (nI 9)), (0, .ref (ad 0))]) F (nI (l + 1)) dX8_digest_110 rfl (nI_add l 1) (by decide) rfl ?_
                      refine v_goto F 38 dX8_digest_113 (by decide) ?_
                      refine v_st (w' := wM ad G (snp T n mo) (S, h) (co, len) (0) Qs (ke_, sp_) u53 Wi_) (pc' := 38) (st' := []) rfl rfl rfl [0, 1, 3] (lv' := [(3, .int (nI (l + 1))), (1, .long ((31 * ((31 * b) + (((woV T n mo l)).toInt64))) + (((meV T l 0)).toInt64))), (0, .ref (ad 0))]) rfl ?_
                      exact ih38 (l + 1) ((31 * ((31 * b) + (((woV T n mo l)).toInt64))) + (((meV T l 0)).toInt64)) ke_ sp_ u53 (by omega) (by omega) (hbn)
                  · replace c51 := nGn (a := j) (b := 9) (by omega) (by decide) c51
                    refine v_ldc2 F wK_RX8_223 dX8_digest_58 ?_
                    refine v_lload_n F dX8_digest_61 1 rfl rfl ?_
                    refine v_lmul F dX8_digest_62 ?_
                    refine v_aload_n F dX8_digest_63 0 rfl rfl ?_
                    refine v_iload_n F dX8_digest_64 3 rfl rfl ?_
                    refine v_iload F dX8_digest_65 rfl ?_
                    refine v_cVIF F cs_RX8_174 dX8_digest_67 0 (ci := 8) rfl rfl (m_X8_ofLine lau G ad T n mo (S, h) (co, len) (0) Qs ke_ sp_ Lo_ Wi_ l j (by omega) (by omega) (by omega) hT) (by decide) rfl rfl (Nat.le_of_ble_eq_true rfl) ⟨Nat.zero_le _, Nat.zero_le _⟩ (fun r59 u60 w61 => ?_)
                    refine v_topi (linV T n mo l j) w61 ?_
                    refine v_i2l F dX8_digest_70 ?_
                    refine v_ladd F dX8_digest_71 ?_
                    refine v_lstore_n (lv' := [(1, .long ((31 * b) + (((linV T n mo l j)).toInt64))), (4, .int (nI j)), (3, .int (nI l)), (0, .ref (ad 0))]) F dX8_digest_72 1 rfl (by decide) rfl ?_
                    refine v_iinc (lv' := [(4, .int (nI (j + 1))), (1, .long ((31 * b) + (((linV T n mo l j)).toInt64))), (3, .int (nI l)), (0, .ref (ad 0))]) F (nI (j + 1)) dX8_digest_73 rfl (nI_add j 1) (by decide) rfl ?_
                    refine v_goto F 51 dX8_digest_76 (by decide) ?_
                    refine v_st (w' := wM ad G (snp T n mo) (S, h) (co, len) (0) Qs u60.1 u60.2 Wi_) (pc' := 51) (st' := []) rfl rfl rfl [0, 2, 1, 3] (lv' := [(4, .int (nI (j + 1))), (3, .int (nI l)), (1, .long ((31 * b) + (((linV T n mo l j)).toInt64))), (0, .ref (ad 0))]) rfl ?_
                    exact ih51 (j + 1) ((31 * b) + (((linV T n mo l j)).toInt64)) u60.1.1 u60.1.2 u60.2 (by omega) (by omega) (by rw [hb]; exact mxN_s _ _ _)
              refine v_st (w' := wM ad G (snp T n mo) (S, h) (co, len) (0) Qs (ke_, sp_) Lo_ Wi_) (pc' := 51) (st' := []) rfl rfl rfl [0, 1, 2, 3] (lv' := [(4, .int (nI 0)), (3, .int (nI l)), (1, .long b), (0, .ref (ad 0))]) rfl ?_
              exact L51 _ 0 b ke_ sp_ Lo_ (Nat.lt_succ_self _) (by omega) (hb.trans (mxN_0 _ _).symm)
        refine v_st (w' := wM ad G (snp T n mo) (S, h) (co, len) (0) Qs (ke_, sp_) Lo_ Wi_) (pc' := 38) (st' := []) rfl rfl rfl [0, 1, 2] (lv' := [(3, .int (nI 0)), (1, .long b), (0, .ref (ad 0))]) rfl ?_
        exact L38 _ 0 b ke_ sp_ Lo_ (Nat.lt_succ_self _) (by omega) (hb.trans (dLi_z _ _ _ _).symm)
      · replace c1 := nGn (a := j) (b := 9) (by omega) (by decide) c1
        refine v_ldc2 F wK_RX8_223 dX8_digest_17 ?_
        refine v_lload_n F dX8_digest_20 1 rfl rfl ?_
        refine v_lmul F dX8_digest_21 ?_
        refine v_aload_n F dX8_digest_22 0 rfl rfl ?_
        refine v_iload_n F dX8_digest_23 3 rfl rfl ?_
        refine v_cVIF F cs_RX8_199 dX8_digest_24 0 (ci := 8) rfl rfl (m_X8_counted lau G ad T n mo S h (co, len) (0) Qs ke_ sp_ Lo_ Wi_ j (by omega) (by omega) hT) (by decide) rfl rfl (Nat.le_of_ble_eq_true rfl) ⟨Nat.zero_le _, Nat.zero_le _⟩ (fun r62 u63 w64 => ?_)
        refine v_topi (cntV T n mo h j) w64 ?_
        refine v_i2l F dX8_digest_27 ?_
        refine v_ladd F dX8_digest_28 ?_
        refine v_lstore_n (lv' := [(1, .long ((31 * b) + (((cntV T n mo h j)).toInt64))), (3, .int (nI j)), (0, .ref (ad 0))]) F dX8_digest_29 1 rfl (by decide) rfl ?_
        refine v_iinc (lv' := [(3, .int (nI (j + 1))), (1, .long ((31 * b) + (((cntV T n mo h j)).toInt64))), (0, .ref (ad 0))]) F (nI (j + 1)) dX8_digest_30 rfl (nI_add j 1) (by decide) rfl ?_
        refine v_goto F 11 dX8_digest_33 (by decide) ?_
        refine v_st (w' := wM ad G (snp T n mo) (S, h) (co, len) (0) Qs u63.1 u63.2.1 u63.2.2) (pc' := 11) (st' := []) rfl rfl rfl [0, 1, 2] (lv' := [(3, .int (nI (j + 1))), (1, .long ((31 * b) + (((cntV T n mo h j)).toInt64))), (0, .ref (ad 0))]) rfl ?_
        exact ih11 (j + 1) ((31 * b) + (((cntV T n mo h j)).toInt64)) u63.1.1 u63.1.2 u63.2.1 u63.2.2 (by omega) (by omega) (by rw [hb]; exact mxN_s _ _ _)
  refine v_st (w' := wM ad G (snp T n mo) (S, h) (co, len) (0) Qs (ke, sp) Lo Wi) (pc' := 11) (st' := []) rfl rfl rfl [0, 1, 2] (lv' := [(3, .int (nI 0)), (1, .long 2591), (0, .ref (ad 0))]) rfl ?_
  exact L11 _ 0 2591 ke sp Lo Wi (Nat.lt_succ_self _) (by omega) ((mxN_0 _ _).symm)
