/-! the law: the lines, and the nodes that keep them -/
theorem cs_RL_69 : CSV RL 69 RX7 yX7_worth cX7_worth 5 (some .int) 1 := ⟨wC_yX7_worth, wM_RL_69, wIm_yX7_worth, wSe_yX7_worth, wI_RX7, by decide +kernel, by decide⟩
theorem cs_RL_72 : CSV RL 72 RX7 yX7_node cX7_node 3 (some .int) 2 := ⟨wC_yX7_node, wM_RL_72, wIm_yX7_node, wSe_yX7_node, wI_RX7, by decide +kernel, by decide⟩
set_option maxHeartbeats 4000000 in
set_option maxRecDepth 100000 in
theorem m_L_lines (lau : Launch) (G : GT) (ad : Nat → Nat) (T : Nat → Int32) (n mo ver : Nat) (S : Nat → Int32) (h : Nat) (P : PT) (Tr : TT) (Rg : RT) (Tx : XT) (Rd : DT) (hmo : mo < 100) (hn : n ≤ 20) (hT : TOK T n) (hP : PCI T n mo ver P) (hC : TCI T n mo ver Tr) (hR : RCI T n ver Rg) : MI lau G 16 yL_lines cL_lines 9 (some .boolean) [.ref (ad 0)] (wC ad G (T, n, mo, ver) (S, h) P Tr Rg Tx Rd) (fun u : PT × TT × RT => wC ad G (T, n, mo, ver) (S, h) u.1 u.2.1 u.2.2 Tx Rd) (fun r u => r = 1 ∧ PCI T n mo ver u.1 ∧ TCI T n mo ver u.2.1 ∧ RCI T n ver u.2.2) := by
  have hsp := sum_plc (T := T) (mo := mo) hn 64
  have hsn : sumN (fun j => nds T n mo (nI j) 128) n + nds T n mo (-1) 128 = 127 := sum_nds (T := T) (mo := mo) hn 127 (by decide)
  have hlc := lvc_b (T := T) (mo := mo) n
  refine mi_of (by decide +kernel) (Nat.le_of_ble_eq_true rfl) ?_
  intro p e s m args below meth c A Q F hr hlk hQ
  refine v_st (w' := wC ad G (T, n, mo, ver) (S, h) P Tr Rg Tx Rd) (pc' := 0) (st' := []) rfl rfl rfl [0] (lv' := [(0, .ref (ad 0))]) rfl ?_
  refine v_iconst (v := nI 0) F dL_lines_0 (by decide) ?_
  refine v_istore_n (lv' := [(1, .int (nI 0)), (0, .ref (ad 0))]) F dL_lines_1 1 rfl (by decide) rfl ?_
  refine v_iconst (v := nI 0) F dL_lines_2 (by decide) ?_
  refine v_istore_n (lv' := [(2, .int (nI 0)), (1, .int (nI 0)), (0, .ref (ad 0))]) F dL_lines_3 2 rfl (by decide) rfl ?_
  refine v_iconst (v := nI 0) F dL_lines_4 (by decide) ?_
  refine v_istore_n (lv' := [(3, .int (nI 0)), (2, .int (nI 0)), (1, .int (nI 0)), (0, .ref (ad 0))]) F dL_lines_5 3 rfl (by decide) rfl ?_
  refine v_iconst (v := nI 0) F dL_lines_6 (by decide) ?_
  refine v_istore (lv' := [(4, .int (nI 0)), (3, .int (nI 0)), (2, .int (nI 0)), (1, .int (nI 0)), (0, .ref (ad 0))]) F dL_lines_7 (by decide) rfl ?_
  refine v_iconst (v := nI 0) F dL_lines_9 (by decide) ?_
  refine v_istore (lv' := [(5, .int (nI 0)), (4, .int (nI 0)), (3, .int (nI 0)), (2, .int (nI 0)), (1, .int (nI 0)), (0, .ref (ad 0))]) F dL_lines_10 (by decide) rfl ?_
  refine v_iconst (v := nI 1) F dL_lines_12 (by decide) ?_
  refine v_istore (lv' := [(6, .int (nI 1)), (5, .int (nI 0)), (4, .int (nI 0)), (3, .int (nI 0)), (2, .int (nI 0)), (1, .int (nI 0)), (0, .ref (ad 0))]) F dL_lines_13 (by decide) rfl ?_
  refine v_iconst (v := nI 0) F dL_lines_15 (by decide) ?_
  refine v_istore (lv' := [(7, .int (nI 0)), (6, .int (nI 1)), (5, .int (nI 0)), (4, .int (nI 0)), (3, .int (nI 0)), (2, .int (nI 0)), (1, .int (nI 0)), (0, .ref (ad 0))]) F dL_lines_16 (by decide) rfl ?_
  have L18 : ∀ (k_ : Nat) (l : Nat) (wv : Nat) (nv : Nat) (lvv : Nat) (P_ : PT) (Tr_ : TT) (Rg_ : RT), n - l < k_ → (l ≤ n) → (wv = sumN (fun j => plc T n mo (nI j) 64) l) → (nv = sumN (fun j => nds T n mo (nI j) 128) l) → (lvv = lvc T mo l) → (PCI T n mo ver P_) → (TCI T n mo ver Tr_) → (RCI T n ver Rg_) → V p lau e (RM 16) s m args below meth c 9 G A Q (wC ad G (T, n, mo, ver) (S, h) P_ Tr_ Rg_ Tx Rd) 0 0 18 [(7, .int (nI l)), (6, .int (nI 1)), (5, .int (nI 0)), (4, .int (nI 0)), (3, .int (nI lvv)), (2, .int (nI nv)), (1, .int (nI wv)), (0, .ref (ad 0))] [] := by
    intro k_
    induction k_ with
    | zero => exact fun l wv nv lvv P_ Tr_ Rg_ hk_ hl hwv hnv hlvv hP_ hC_ hR_ => absurd hk_ (Nat.not_lt_zero _)
    | succ k_ ih18 =>
      intro l wv nv lvv P_ Tr_ Rg_ hk_18 hl hwv hnv hlvv hP_ hC_ hR_
      have hp1 := plc_b (T := T) (n := n) (mo := mo) (ln := nI l) 64
      have hp2 := nds_b (T := T) (n := n) (mo := mo) (ln := nI l) 128
      refine v_iload F dL_lines_18 rfl ?_
      refine v_aload_n F dL_lines_20 0 rfl rfl ?_
      refine v_iconst (v := nI 1) F dL_lines_21 (by decide) ?_
      refine v_cVIF F cs_RL_15 dL_lines_22 0 (ci := 7) rfl rfl (m_X7_count lau G ad T n mo ver S h P_ Tr_ Rg_ Tx Rd 1 (by omega) (by omega) hT hP_ hC_ hR_) (by decide) rfl rfl (Nat.le_of_ble_eq_true rfl) ⟨Nat.zero_le _, Nat.zero_le _⟩ (fun r1 u2 w3 => ?_)
      have h4 := w3.2
      refine v_topi ((cntV T n mo h 1)) w3.1 ?_
      refine v_topi (nI n) (rfl) ?_
      refine v_icmp_ge F 193 dL_lines_25 (by decide) (fun hln => ?_) (fun hln => ?_)
      · replace hln := nG (a := l) (b := n) (by omega) (by omega) hln
        have hle : l = n := by omega
        rw [hle] at hwv hnv hlvv
        refine v_iconst (v := nI 1) F dL_lines_193 (by decide) ?_
        refine v_istore (lv' := [(7, .int (nI 1)), (6, .int (nI 1)), (5, .int (nI 0)), (4, .int (nI 0)), (3, .int (nI lvv)), (2, .int (nI nv)), (1, .int (nI wv)), (0, .ref (ad 0))]) F dL_lines_194 (by decide) rfl ?_
        have L196 : ∀ (k_ : Nat) (k : Nat) (kv : Nat) (sv : Nat) (P2 : PT) (Tr2 : TT) (Rg2 : RT), 128 - k < k_ → (1 ≤ k) → (k ≤ 128) → (kv + nds T n mo (-1) k = k - 1) → (sts T n mo k = nI sv) → (kv ≤ sv) → (sv ≤ 2560 * k) → (PCI T n mo ver P2) → (TCI T n mo ver Tr2) → (RCI T n ver Rg2) → V p lau e (RM 16) s m args below meth c 9 G A Q (wC ad G (T, n, mo, ver) (S, h) P2 Tr2 Rg2 Tx Rd) 0 0 196 [(7, .int (nI k)), (6, .int (nI 1)), (5, .int (nI sv)), (4, .int (nI kv)), (3, .int (nI lvv)), (2, .int (nI nv)), (1, .int (nI wv)), (0, .ref (ad 0))] [] := by
          intro k_
          induction k_ with
          | zero => exact fun k kv sv P2 Tr2 Rg2 hk_ hk1 hk2 hkv hst hks hsb hP2 hC2 hR2 => absurd hk_ (Nat.not_lt_zero _)
          | succ k_ ih196 =>
            intro k kv sv P2 Tr2 Rg2 hk_196 hk1 hk2 hkv hst hks hsb hP2 hC2 hR2
            refine v_iload F dL_lines_196 rfl ?_
            refine v_sipush (v := nI 128) F dL_lines_198 (by decide) ?_
            refine v_icmp_ge F 242 dL_lines_201 (by decide) (fun c5 => ?_) (fun c5 => ?_)
            · replace c5 := nG (a := k) (b := 128) (by omega) (by decide) c5
              have hk128 : k = 128 := by omega
              subst hk128
              refine v_iload F dL_lines_242 rfl ?_
              refine v_if_eq F 296 dL_lines_244 (by decide) (fun h => absurd h (by decide)) (fun _ => ?_)
              refine v_iload_n F dL_lines_247 1 rfl rfl ?_
              refine v_aload_n F dL_lines_248 0 rfl rfl ?_
              refine v_iconst (v := nI 4) F dL_lines_249 (by decide) ?_
              refine v_cVIF F cs_RL_15 dL_lines_250 0 (ci := 7) rfl rfl (m_X7_count lau G ad T n mo ver S h P2 Tr2 Rg2 Tx Rd 4 (by omega) (by omega) hT hP2 hC2 hR2) (by decide) rfl rfl (Nat.le_of_ble_eq_true rfl) ⟨Nat.zero_le _, Nat.zero_le _⟩ (fun r6 u7 w8 => ?_)
              have h9 := w8.2
              refine v_topi ((cntV T n mo h 4)) w8.1 ?_
              refine v_topi (nI (plc T n mo (-1) 64)) (rfl) ?_
              refine v_iadd F dL_lines_253 ?_
              refine v_topi (nI (wv + (plc T n mo (-1) 64))) (nI_add wv (plc T n mo (-1) 64)) ?_
              refine v_bipush (v := nI 64) F dL_lines_254 (by decide) ?_
              refine v_icmp_ne F 296 dL_lines_256 (by decide) (fun c10 => ?_) (fun c10 => ?_)
              · replace c10 := nEn (a := (wv + (plc T n mo (-1) 64))) (b := 64) (by omega) (by decide) c10
                omega
              · replace c10 := nE (a := (wv + (plc T n mo (-1) 64))) (b := 64) (by omega) (by decide) c10
                refine v_iload_n F dL_lines_259 2 rfl rfl ?_
                refine v_aload_n F dL_lines_260 0 rfl rfl ?_
                refine v_bipush (v := nI 6) F dL_lines_261 (by decide) ?_
                refine v_cVIF F cs_RL_15 dL_lines_263 0 (ci := 7) rfl rfl (m_X7_count lau G ad T n mo ver S h u7.1 u7.2.1 u7.2.2 Tx Rd 6 (by omega) (by omega) hT h9.1 h9.2.1 h9.2.2) (by decide) rfl rfl (Nat.le_of_ble_eq_true rfl) ⟨Nat.zero_le _, Nat.zero_le _⟩ (fun r11 u12 w13 => ?_)
                have h14 := w13.2
                refine v_topi ((cntV T n mo h 6)) w13.1 ?_
                refine v_topi (nI (127 - nds T n mo (-1) 128)) (pk_sub (by omega)) ?_
                refine v_icmp_ne F 296 dL_lines_266 (by decide) (fun c15 => ?_) (fun c15 => ?_)
                · replace c15 := nEn (a := nv) (b := (127 - nds T n mo (-1) 128)) (by omega) (by omega) c15
                  omega
                · replace c15 := nE (a := nv) (b := (127 - nds T n mo (-1) 128)) (by omega) (by omega) c15
                  refine v_iload F dL_lines_269 rfl ?_
                  refine v_iload_n F dL_lines_271 2 rfl rfl ?_
                  refine v_icmp_ne F 296 dL_lines_272 (by decide) (fun c16 => ?_) (fun c16 => ?_)
                  · replace c16 := nEn (a := kv) (b := nv) (by omega) (by omega) c16
                    omega
                  · replace c16 := nE (a := kv) (b := nv) (by omega) (by omega) c16
                    refine v_iload F dL_lines_275 rfl ?_
                    refine v_aload_n F dL_lines_277 0 rfl rfl ?_
                    refine v_iconst (v := nI 5) F dL_lines_278 (by decide) ?_
                    refine v_cVIF F cs_RL_15 dL_lines_279 0 (ci := 7) rfl rfl (m_X7_count lau G ad T n mo ver S h u12.1 u12.2.1 u12.2.2 Tx Rd 5 (by omega) (by omega) hT h14.1 h14.2.1 h14.2.2) (by decide) rfl rfl (Nat.le_of_ble_eq_true rfl) ⟨Nat.zero_le _, Nat.zero_le _⟩ (fun r17 u18 w19 => ?_)
                    have h20 := w19.2
                    refine v_topi ((cntV T n mo h 5)) w19.1 ?_
                    refine v_topi (nI sv) (hst) ?_
                    refine v_icmp_ne F 296 dL_lines_282 (by decide) (fun c21 => ?_) (fun c21 => ?_)
                    · replace c21 := nEn (a := sv) (b := sv) (by omega) (by omega) c21
                      omega
                    · replace c21 := nE (a := sv) (b := sv) (by omega) (by omega) c21
                      refine v_iload F dL_lines_285 rfl ?_
                      refine v_iload F dL_lines_287 rfl ?_
                      refine v_icmp_gt F 296 dL_lines_289 (by decide) (fun c22 => ?_) (fun c22 => ?_)
                      · replace c22 := nT (a := kv) (b := sv) (by omega) (by omega) c22
                        omega
                      · replace c22 := nTn (a := kv) (b := sv) (by omega) (by omega) c22
                        refine v_iconst (v := nI 1) F dL_lines_292 (by decide) ?_
                        refine v_goto F 297 dL_lines_293 (by decide) ?_
                        refine v_istore (lv' := [(6, .int (nI 1)), (7, .int (nI 128)), (5, .int (nI sv)), (4, .int (nI kv)), (3, .int (nI lvv)), (2, .int (nI nv)), (1, .int (nI wv)), (0, .ref (ad 0))]) F dL_lines_297 (by decide) rfl ?_
                        refine v_iload F dL_lines_299 rfl ?_
                        refine v_if_eq F 317 dL_lines_301 (by decide) (fun h => absurd h (by decide)) (fun _ => ?_)
                        refine v_iload_n F dL_lines_304 3 rfl rfl ?_
                        refine v_aload_n F dL_lines_305 0 rfl rfl ?_
                        refine v_iconst (v := nI 2) F dL_lines_306 (by decide) ?_
                        refine v_cVIF F cs_RL_15 dL_lines_307 0 (ci := 7) rfl rfl (m_X7_count lau G ad T n mo ver S h u18.1 u18.2.1 u18.2.2 Tx Rd 2 (by omega) (by omega) hT h20.1 h20.2.1 h20.2.2) (by decide) rfl rfl (Nat.le_of_ble_eq_true rfl) ⟨Nat.zero_le _, Nat.zero_le _⟩ (fun r23 u24 w25 => ?_)
                        have h26 := w25.2
                        refine v_topi ((cntV T n mo h 2)) w25.1 ?_
                        refine v_topi (nI (lvc T mo n)) (rfl) ?_
                        refine v_icmp_ne F 317 dL_lines_310 (by decide) (fun c27 => ?_) (fun c27 => ?_)
                        · replace c27 := nEn (a := lvv) (b := (lvc T mo n)) (by omega) (by omega) c27
                          omega
                        · replace c27 := nE (a := lvv) (b := (lvc T mo n)) (by omega) (by omega) c27
                          refine v_iconst (v := nI 1) F dL_lines_313 (by decide) ?_
                          refine v_goto F 318 dL_lines_314 (by decide) ?_
                          exact v_zret F hr hlk hQ rfl dL_lines_318 ((u24.1, u24.2.1, u24.2.2)) rfl (by refine ⟨?_, h26.1, h26.2.1, h26.2.2⟩; rfl)
            · replace c5 := nGn (a := k) (b := 128) (by omega) (by decide) c5
              refine v_iload F dL_lines_204 rfl ?_
              refine v_aload_n F dL_lines_206 0 rfl rfl ?_
              refine v_iload F dL_lines_207 rfl ?_
              refine v_iconst (v := nI 0) F dL_lines_209 (by decide) ?_
              refine v_cVIF F cs_RL_72 dL_lines_210 0 (ci := 7) rfl rfl (m_X7_node lau G ad T n mo ver S h P2 Tr2 Rg2 Tx Rd k 0 (by omega) (by omega) (by omega) hT hP2 hC2 hR2) (by decide) rfl rfl (Nat.le_of_ble_eq_true rfl) ⟨Nat.zero_le _, Nat.zero_le _⟩ (fun r28 u29 w30 => ?_)
              have h31 := w30.2
              refine v_topi ((ndV T n mo k 0)) w30.1 ?_
              rcases kp_sq (T := T) (mo := mo) hn (show k < 128 by omega) with ⟨hkp | ⟨g, hg, hkp, -⟩, s_, hs1, hs2, hs3⟩
              · refine v_topi (-1) hkp ?_
                refine v_if_lt F 220 dL_lines_213 (by decide) (fun _ => ?_) (fun h => absurd h (by decide))
                refine v_iconst (v := nI 0) F dL_lines_220 (by decide) ?_
                refine v_iadd F dL_lines_221 ?_
                refine v_topi (nI (kv + 0)) (nI_add kv 0) ?_
                refine v_istore (lv' := [(4, .int (nI (kv + 0))), (7, .int (nI k)), (6, .int (nI 1)), (5, .int (nI sv)), (3, .int (nI lvv)), (2, .int (nI nv)), (1, .int (nI wv)), (0, .ref (ad 0))]) F dL_lines_222 (by decide) rfl ?_
                refine v_iload F dL_lines_224 rfl ?_
                refine v_aload_n F dL_lines_226 0 rfl rfl ?_
                refine v_iload F dL_lines_227 rfl ?_
                refine v_iconst (v := nI 4) F dL_lines_229 (by decide) ?_
                refine v_cVIF F cs_RL_72 dL_lines_230 0 (ci := 7) rfl rfl (m_X7_node lau G ad T n mo ver S h u29.1 u29.2.1 u29.2.2 Tx Rd k 4 (by omega) (by omega) (by omega) hT h31.1 h31.2.1 h31.2.2) (by decide) rfl rfl (Nat.le_of_ble_eq_true rfl) ⟨Nat.zero_le _, Nat.zero_le _⟩ (fun r32 u33 w34 => ?_)
                have h35 := w34.2
                refine v_topi ((ndV T n mo k 4)) w34.1 ?_
                refine v_topi (nI s_) (hs2) ?_
                refine v_iadd F dL_lines_233 ?_
                refine v_topi (nI (sv + s_)) (nI_add sv s_) ?_
                refine v_istore (lv' := [(5, .int (nI (sv + s_))), (4, .int (nI (kv + 0))), (7, .int (nI k)), (6, .int (nI 1)), (3, .int (nI lvv)), (2, .int (nI nv)), (1, .int (nI wv)), (0, .ref (ad 0))]) F dL_lines_234 (by decide) rfl ?_
                refine v_iinc (lv' := [(7, .int (nI (k + 1))), (5, .int (nI (sv + s_))), (4, .int (nI (kv + 0))), (6, .int (nI 1)), (3, .int (nI lvv)), (2, .int (nI nv)), (1, .int (nI wv)), (0, .ref (ad 0))]) F (nI (k + 1)) dL_lines_236 rfl (nI_add k 1) (by decide) rfl ?_
                refine v_goto F 196 dL_lines_239 (by decide) ?_
                refine v_st (w' := wC ad G (T, n, mo, ver) (S, h) u33.1 u33.2.1 u33.2.2 Tx Rd) (pc' := 196) (st' := []) rfl rfl rfl [0, 3, 1, 2, 4, 5, 6, 7] (lv' := [(7, .int (nI (k + 1))), (6, .int (nI 1)), (5, .int (nI (sv + s_))), (4, .int (nI (kv + 0))), (3, .int (nI lvv)), (2, .int (nI nv)), (1, .int (nI wv)), (0, .ref (ad 0))]) rfl ?_
                exact ih196 (k + 1) (kv + 0) (sv + s_) u33.1 u33.2.1 u33.2.2 (by omega) (by omega) (by omega) (by first | (rw [nds, if_pos ⟨hk1, hkp⟩]; omega) | (rw [nds, if_neg (fun q => nI_neO (by omega : g < 2 ^ 31) (hkp.symm.trans q.2))]; omega)) (by rw [sts, if_pos hk1, hst, hs2, nI_add]) (by first | omega | (have := hs3.resolve_left (by rw [hkp]; exact nI_neO (by omega)); omega)) (by omega) (h35.1) (h35.2.1) (h35.2.2)
              · refine v_topi (nI g) hkp ?_
                refine v_if_lt F 220 dL_lines_213 (by decide) (fun c36 => ?_) (fun c36 => ?_)
                · replace c36 := nL (a := g) (b := 0) (by omega) (by decide) c36
                  exact absurd c36 (Nat.not_lt_zero _)
                · replace c36 := nLn (a := g) (b := 0) (by omega) (by decide) c36
                  refine v_iconst (v := nI 1) F dL_lines_216 (by decide) ?_
                  refine v_goto F 221 dL_lines_217 (by decide) ?_
                  refine v_iadd F dL_lines_221 ?_
                  refine v_topi (nI (kv + 1)) (nI_add kv 1) ?_
                  refine v_istore (lv' := [(4, .int (nI (kv + 1))), (7, .int (nI k)), (6, .int (nI 1)), (5, .int (nI sv)), (3, .int (nI lvv)), (2, .int (nI nv)), (1, .int (nI wv)), (0, .ref (ad 0))]) F dL_lines_222 (by decide) rfl ?_
                  refine v_iload F dL_lines_224 rfl ?_
                  refine v_aload_n F dL_lines_226 0 rfl rfl ?_
                  refine v_iload F dL_lines_227 rfl ?_
                  refine v_iconst (v := nI 4) F dL_lines_229 (by decide) ?_
                  refine v_cVIF F cs_RL_72 dL_lines_230 0 (ci := 7) rfl rfl (m_X7_node lau G ad T n mo ver S h u29.1 u29.2.1 u29.2.2 Tx Rd k 4 (by omega) (by omega) (by omega) hT h31.1 h31.2.1 h31.2.2) (by decide) rfl rfl (Nat.le_of_ble_eq_true rfl) ⟨Nat.zero_le _, Nat.zero_le _⟩ (fun r37 u38 w39 => ?_)
                  have h40 := w39.2
                  refine v_topi ((ndV T n mo k 4)) w39.1 ?_
                  refine v_topi (nI s_) (hs2) ?_
                  refine v_iadd F dL_lines_233 ?_
                  refine v_topi (nI (sv + s_)) (nI_add sv s_) ?_
                  refine v_istore (lv' := [(5, .int (nI (sv + s_))), (4, .int (nI (kv + 1))), (7, .int (nI k)), (6, .int (nI 1)), (3, .int (nI lvv)), (2, .int (nI nv)), (1, .int (nI wv)), (0, .ref (ad 0))]) F dL_lines_234 (by decide) rfl ?_
                  refine v_iinc (lv' := [(7, .int (nI (k + 1))), (5, .int (nI (sv + s_))), (4, .int (nI (kv + 1))), (6, .int (nI 1)), (3, .int (nI lvv)), (2, .int (nI nv)), (1, .int (nI wv)), (0, .ref (ad 0))]) F (nI (k + 1)) dL_lines_236 rfl (nI_add k 1) (by decide) rfl ?_
                  refine v_goto F 196 dL_lines_239 (by decide) ?_
                  refine v_st (w' := wC ad G (T, n, mo, ver) (S, h) u38.1 u38.2.1 u38.2.2 Tx Rd) (pc' := 196) (st' := []) rfl rfl rfl [0, 3, 1, 2, 4, 5, 6, 7] (lv' := [(7, .int (nI (k + 1))), (6, .int (nI 1)), (5, .int (nI (sv + s_))), (4, .int (nI (kv + 1))), (3, .int (nI lvv)), (2, .int (nI nv)), (1, .int (nI wv)), (0, .ref (ad 0))]) rfl ?_
                  exact ih196 (k + 1) (kv + 1) (sv + s_) u38.1 u38.2.1 u38.2.2 (by omega) (by omega) (by omega) (by first | (rw [nds, if_pos ⟨hk1, hkp⟩]; omega) | (rw [nds, if_neg (fun q => nI_neO (by omega : g < 2 ^ 31) (hkp.symm.trans q.2))]; omega)) (by rw [sts, if_pos hk1, hst, hs2, nI_add]) (by first | omega | (have := hs3.resolve_left (by rw [hkp]; exact nI_neO (by omega)); omega)) (by omega) (h40.1) (h40.2.1) (h40.2.2)
        refine v_st (w' := wC ad G (T, n, mo, ver) (S, h) u2.1 u2.2.1 u2.2.2 Tx Rd) (pc' := 196) (st' := []) rfl rfl rfl [0, 1, 2, 3, 4, 5, 6, 7] (lv' := [(7, .int (nI 1)), (6, .int (nI 1)), (5, .int (nI 0)), (4, .int (nI 0)), (3, .int (nI lvv)), (2, .int (nI nv)), (1, .int (nI wv)), (0, .ref (ad 0))]) rfl ?_
        exact L196 _ 1 0 0 u2.1 u2.2.1 u2.2.2 (Nat.lt_succ_self _) (by omega) (by omega) (by rw [nds, if_neg (by omega)]; rfl) (rfl) (by omega) (by omega) (h4.1) (h4.2.1) (h4.2.2)
      · replace hln := nGn (a := l) (b := n) (by omega) (by omega) hln
        refine v_iload F dL_lines_28 rfl ?_
        refine v_if_eq F 193 dL_lines_30 (by decide) (fun h => absurd h (by decide)) (fun _ => ?_)
        refine v_iload_n F dL_lines_33 1 rfl rfl ?_
        refine v_aload_n F dL_lines_34 0 rfl rfl ?_
        refine v_iload F dL_lines_35 rfl ?_
        refine v_bipush (v := nI 6) F dL_lines_37 (by decide) ?_
        refine v_cVIF F cs_RL_9 dL_lines_39 0 (ci := 7) rfl rfl (m_X7_line lau G ad T n mo ver S h u2.1 u2.2.1 u2.2.2 Tx Rd l 6 (by omega) (by omega) (by omega) hT h4.1 h4.2.1 h4.2.2) (by decide) rfl rfl (Nat.le_of_ble_eq_true rfl) ⟨Nat.zero_le _, Nat.zero_le _⟩ (fun r41 u42 w43 => ?_)
        have h44 := w43.2
        refine v_topi ((linV T n mo l 6)) w43.1 ?_
        refine v_topi (nI (plc T n mo (nI l) 64)) (rfl) ?_
        refine v_iadd F dL_lines_42 ?_
        refine v_topi (nI (wv + (plc T n mo (nI l) 64))) (nI_add wv (plc T n mo (nI l) 64)) ?_
        refine v_istore_n (lv' := [(1, .int (nI (wv + (plc T n mo (nI l) 64)))), (7, .int (nI l)), (6, .int (nI 1)), (5, .int (nI 0)), (4, .int (nI 0)), (3, .int (nI lvv)), (2, .int (nI nv)), (0, .ref (ad 0))]) F dL_lines_43 1 rfl (by decide) rfl ?_
        refine v_iload_n F dL_lines_44 2 rfl rfl ?_
        refine v_aload_n F dL_lines_45 0 rfl rfl ?_
        refine v_iload F dL_lines_46 rfl ?_
        refine v_bipush (v := nI 7) F dL_lines_48 (by decide) ?_
        refine v_cVIF F cs_RL_9 dL_lines_50 0 (ci := 7) rfl rfl (m_X7_line lau G ad T n mo ver S h u42.1 u42.2.1 u42.2.2 Tx Rd l 7 (by omega) (by omega) (by omega) hT h44.1 h44.2.1 h44.2.2) (by decide) rfl rfl (Nat.le_of_ble_eq_true rfl) ⟨Nat.zero_le _, Nat.zero_le _⟩ (fun r45 u46 w47 => ?_)
        have h48 := w47.2
        refine v_topi ((linV T n mo l 7)) w47.1 ?_
        refine v_topi (nI (nds T n mo (nI l) 128)) (rfl) ?_
        refine v_iadd F dL_lines_53 ?_
        refine v_topi (nI (nv + (nds T n mo (nI l) 128))) (nI_add nv (nds T n mo (nI l) 128)) ?_
        refine v_istore_n (lv' := [(2, .int (nI (nv + (nds T n mo (nI l) 128)))), (1, .int (nI (wv + (plc T n mo (nI l) 64)))), (7, .int (nI l)), (6, .int (nI 1)), (5, .int (nI 0)), (4, .int (nI 0)), (3, .int (nI lvv)), (0, .ref (ad 0))]) F dL_lines_54 2 rfl (by decide) rfl ?_
        refine v_aload_n F dL_lines_55 0 rfl rfl ?_
        refine v_iload F dL_lines_56 rfl ?_
        refine v_iconst (v := nI 4) F dL_lines_58 (by decide) ?_
        refine v_cVIF F cs_RL_9 dL_lines_59 0 (ci := 7) rfl rfl (m_X7_line lau G ad T n mo ver S h u46.1 u46.2.1 u46.2.2 Tx Rd l 4 (by omega) (by omega) (by omega) hT h48.1 h48.2.1 h48.2.2) (by decide) rfl rfl (Nat.le_of_ble_eq_true rfl) ⟨Nat.zero_le _, Nat.zero_le _⟩ (fun r49 u50 w51 => ?_)
        have h52 := w51.2
        refine v_topi ((linV T n mo l 4)) w51.1 ?_
        refine v_topi ((T (l * 6 + 4))) (rfl) ?_
        refine v_aload_n F dL_lines_62 0 rfl rfl ?_
        refine v_iconst (v := nI 0) F dL_lines_63 (by decide) ?_
        refine v_cVIF F cs_RL_15 dL_lines_64 0 (ci := 7) rfl rfl (m_X7_count lau G ad T n mo ver S h u50.1 u50.2.1 u50.2.2 Tx Rd 0 (by omega) (by omega) hT h52.1 h52.2.1 h52.2.2) (by decide) rfl rfl (Nat.le_of_ble_eq_true rfl) ⟨Nat.zero_le _, Nat.zero_le _⟩ (fun r53 u54 w55 => ?_)
        have h56 := w55.2
        refine v_topi ((cntV T n mo h 0)) w55.1 ?_
        refine v_topi (nI mo) (rfl) ?_
        refine v_icmp_gt F 89 dL_lines_67 (by decide) (fun h67 => ?_) (fun h67 => ?_)
        · have hlv : lvB T l (nI mo) = false := by simp [lvB, inB, h67]
          refine v_iconst (v := nI 0) F dL_lines_89 (by decide) ?_
          refine v_istore (lv' := [(8, .int (nI 0)), (2, .int (nI (nv + (nds T n mo (nI l) 128)))), (1, .int (nI (wv + (plc T n mo (nI l) 64)))), (7, .int (nI l)), (6, .int (nI 1)), (5, .int (nI 0)), (4, .int (nI 0)), (3, .int (nI lvv)), (0, .ref (ad 0))]) F dL_lines_90 (by decide) rfl ?_
          refine v_iload_n F dL_lines_92 3 rfl rfl ?_
          refine v_iload F dL_lines_93 rfl ?_
          refine v_if_eq F 102 dL_lines_95 (by decide) (fun _ => ?_) (fun h => absurd h (by decide))
          refine v_iconst (v := nI 0) F dL_lines_102 (by decide) ?_
          refine v_iadd F dL_lines_103 ?_
          refine v_topi (nI (lvv + 0)) (nI_add lvv 0) ?_
          refine v_istore_n (lv' := [(3, .int (nI (lvv + 0))), (8, .int (nI 0)), (2, .int (nI (nv + (nds T n mo (nI l) 128)))), (1, .int (nI (wv + (plc T n mo (nI l) 64)))), (7, .int (nI l)), (6, .int (nI 1)), (5, .int (nI 0)), (4, .int (nI 0)), (0, .ref (ad 0))]) F dL_lines_104 3 rfl (by decide) rfl ?_
          refine v_aload_n F dL_lines_105 0 rfl rfl ?_
          refine v_iload F dL_lines_106 rfl ?_
          refine v_cVIF F cs_RL_69 dL_lines_108 0 (ci := 7) rfl rfl (m_X7_worth lau G ad T n mo ver S h u54.1 u54.2.1 u54.2.2 Tx Rd l (by omega) (by omega) hT h56.1 h56.2.1 h56.2.2) (by decide) rfl rfl (Nat.le_of_ble_eq_true rfl) ⟨Nat.zero_le _, Nat.zero_le _⟩ (fun r57 u58 w59 => ?_)
          have h60 := w59.2
          refine v_topi ((woV T n mo l)) w59.1 ?_
          refine v_iconst (v := (-1)) F dL_lines_111 (by decide) ?_
          refine v_icmp_lt F 184 dL_lines_112 (by decide) (fun c61 => ?_) (fun c61 => ?_)
          · exact absurd c61 (woV_ge hn hT hln)
          · refine v_iload F dL_lines_115 rfl ?_
            refine v_if_ne F 142 dL_lines_117 (by decide) (fun h => absurd h (by decide)) (fun _ => ?_)
            refine v_aload_n F dL_lines_120 0 rfl rfl ?_
            refine v_iload F dL_lines_121 rfl ?_
            refine v_bipush (v := nI 6) F dL_lines_123 (by decide) ?_
            refine v_cVIF F cs_RL_9 dL_lines_125 0 (ci := 7) rfl rfl (m_X7_line lau G ad T n mo ver S h u58.1 u58.2.1 u58.2.2 Tx Rd l 6 (by omega) (by omega) (by omega) hT h60.1 h60.2.1 h60.2.2) (by decide) rfl rfl (Nat.le_of_ble_eq_true rfl) ⟨Nat.zero_le _, Nat.zero_le _⟩ (fun r62 u63 w64 => ?_)
            have h65 := w64.2
            refine v_topi ((linV T n mo l 6)) w64.1 ?_
            refine v_topi (nI (plc T n mo (nI l) 64)) (rfl) ?_
            refine v_if_ne F 184 dL_lines_128 (by decide) (fun c66 => ?_) (fun c66 => ?_)
            · replace c66 := nEn (a := (plc T n mo (nI l) 64)) (b := 0) (by omega) (by decide) c66
              exact absurd (plc_dead hn hln hlv) c66
            · replace c66 := nE (a := (plc T n mo (nI l) 64)) (b := 0) (by omega) (by decide) c66
              refine v_aload_n F dL_lines_131 0 rfl rfl ?_
              refine v_iload F dL_lines_132 rfl ?_
              refine v_bipush (v := nI 7) F dL_lines_134 (by decide) ?_
              refine v_cVIF F cs_RL_9 dL_lines_136 0 (ci := 7) rfl rfl (m_X7_line lau G ad T n mo ver S h u63.1 u63.2.1 u63.2.2 Tx Rd l 7 (by omega) (by omega) (by omega) hT h65.1 h65.2.1 h65.2.2) (by decide) rfl rfl (Nat.le_of_ble_eq_true rfl) ⟨Nat.zero_le _, Nat.zero_le _⟩ (fun r67 u68 w69 => ?_)
              have h70 := w69.2
              refine v_topi ((linV T n mo l 7)) w69.1 ?_
              refine v_topi (nI (nds T n mo (nI l) 128)) (rfl) ?_
              refine v_if_ne F 184 dL_lines_139 (by decide) (fun c71 => ?_) (fun c71 => ?_)
              · replace c71 := nEn (a := (nds T n mo (nI l) 128)) (b := 0) (by omega) (by decide) c71
                exact absurd (nds_dead hn hln hlv 128 (by decide)) c71
              · replace c71 := nE (a := (nds T n mo (nI l) 128)) (b := 0) (by omega) (by decide) c71
                refine v_aload_n F dL_lines_142 0 rfl rfl ?_
                refine v_iload F dL_lines_143 rfl ?_
                refine v_bipush (v := nI 6) F dL_lines_145 (by decide) ?_
                refine v_cVIF F cs_RL_9 dL_lines_147 0 (ci := 7) rfl rfl (m_X7_line lau G ad T n mo ver S h u68.1 u68.2.1 u68.2.2 Tx Rd l 6 (by omega) (by omega) (by omega) hT h70.1 h70.2.1 h70.2.2) (by decide) rfl rfl (Nat.le_of_ble_eq_true rfl) ⟨Nat.zero_le _, Nat.zero_le _⟩ (fun r72 u73 w74 => ?_)
                have h75 := w74.2
                refine v_topi ((linV T n mo l 6)) w74.1 ?_
                refine v_topi (nI (plc T n mo (nI l) 64)) (rfl) ?_
                refine v_if_eq F 180 dL_lines_150 (by decide) (fun c76 => ?_) (fun c76 => ?_)
                · replace c76 := nE (a := (plc T n mo (nI l) 64)) (b := 0) (by omega) (by decide) c76
                  refine v_iconst (v := nI 1) F dL_lines_180 (by decide) ?_
                  refine v_goto F 185 dL_lines_181 (by decide) ?_
                  refine v_istore (lv' := [(6, .int (nI 1)), (3, .int (nI (lvv + 0))), (8, .int (nI 0)), (2, .int (nI (nv + (nds T n mo (nI l) 128)))), (1, .int (nI (wv + (plc T n mo (nI l) 64)))), (7, .int (nI l)), (5, .int (nI 0)), (4, .int (nI 0)), (0, .ref (ad 0))]) F dL_lines_185 (by decide) rfl ?_
                  refine v_iinc (lv' := [(7, .int (nI (l + 1))), (6, .int (nI 1)), (3, .int (nI (lvv + 0))), (8, .int (nI 0)), (2, .int (nI (nv + (nds T n mo (nI l) 128)))), (1, .int (nI (wv + (plc T n mo (nI l) 64)))), (5, .int (nI 0)), (4, .int (nI 0)), (0, .ref (ad 0))]) F (nI (l + 1)) dL_lines_187 rfl (nI_add l 1) (by decide) rfl ?_
                  refine v_goto F 18 dL_lines_190 (by decide) ?_
                  refine v_st (w' := wC ad G (T, n, mo, ver) (S, h) u73.1 u73.2.1 u73.2.2 Tx Rd) (pc' := 18) (st' := []) rfl rfl rfl [0, 1, 6, 7, 2, 4, 5, 8] (lv' := [(7, .int (nI (l + 1))), (6, .int (nI 1)), (5, .int (nI 0)), (4, .int (nI 0)), (3, .int (nI (lvv + 0))), (2, .int (nI (nv + (nds T n mo (nI l) 128)))), (1, .int (nI (wv + (plc T n mo (nI l) 64)))), (0, .ref (ad 0))]) rfl ?_
                  exact ih18 (l + 1) (wv + (plc T n mo (nI l) 64)) (nv + (nds T n mo (nI l) 128)) (lvv + 0) u73.1 u73.2.1 u73.2.2 (by omega) (by omega) (by rw [hwv]; rfl) (by rw [hnv]; rfl) (by rw [hlvv, lvc, hlv]; rfl) (h75.1) (h75.2.1) (h75.2.2)
                · replace c76 := nEn (a := (plc T n mo (nI l) 64)) (b := 0) (by omega) (by decide) c76
                  obtain ⟨t_, ht1, ht2⟩ := fmo_in hn hT hmo hln c76
                  refine v_aload_n F dL_lines_153 0 rfl rfl ?_
                  refine v_iload F dL_lines_154 rfl ?_
                  refine v_bipush (v := nI 8) F dL_lines_156 (by decide) ?_
                  refine v_cVIF F cs_RL_9 dL_lines_158 0 (ci := 7) rfl rfl (m_X7_line lau G ad T n mo ver S h u73.1 u73.2.1 u73.2.2 Tx Rd l 8 (by omega) (by omega) (by omega) hT h75.1 h75.2.1 h75.2.2) (by decide) rfl rfl (Nat.le_of_ble_eq_true rfl) ⟨Nat.zero_le _, Nat.zero_le _⟩ (fun r77 u78 w79 => ?_)
                  have h80 := w79.2
                  refine v_topi ((linV T n mo l 8)) w79.1 ?_
                  refine v_topi (nI t_) (ht2) ?_
                  refine v_if_lt F 184 dL_lines_161 (by decide) (fun c81 => ?_) (fun c81 => ?_)
                  · replace c81 := nL (a := t_) (b := 0) (by omega) (by decide) c81
                    exact absurd c81 (Nat.not_lt_zero _)
                  · replace c81 := nLn (a := t_) (b := 0) (by omega) (by decide) c81
                    refine v_aload_n F dL_lines_164 0 rfl rfl ?_
                    refine v_iload F dL_lines_165 rfl ?_
                    refine v_bipush (v := nI 8) F dL_lines_167 (by decide) ?_
                    refine v_cVIF F cs_RL_9 dL_lines_169 0 (ci := 7) rfl rfl (m_X7_line lau G ad T n mo ver S h u78.1 u78.2.1 u78.2.2 Tx Rd l 8 (by omega) (by omega) (by omega) hT h80.1 h80.2.1 h80.2.2) (by decide) rfl rfl (Nat.le_of_ble_eq_true rfl) ⟨Nat.zero_le _, Nat.zero_le _⟩ (fun r82 u83 w84 => ?_)
                    have h85 := w84.2
                    refine v_topi ((linV T n mo l 8)) w84.1 ?_
                    refine v_topi (nI t_) (ht2) ?_
                    refine v_aload_n F dL_lines_172 0 rfl rfl ?_
                    refine v_iconst (v := nI 0) F dL_lines_173 (by decide) ?_
                    refine v_cVIF F cs_RL_15 dL_lines_174 0 (ci := 7) rfl rfl (m_X7_count lau G ad T n mo ver S h u83.1 u83.2.1 u83.2.2 Tx Rd 0 (by omega) (by omega) hT h85.1 h85.2.1 h85.2.2) (by decide) rfl rfl (Nat.le_of_ble_eq_true rfl) ⟨Nat.zero_le _, Nat.zero_le _⟩ (fun r86 u87 w88 => ?_)
                    have h89 := w88.2
                    refine v_topi ((cntV T n mo h 0)) w88.1 ?_
                    refine v_topi (nI mo) (rfl) ?_
                    refine v_icmp_gt F 184 dL_lines_177 (by decide) (fun c90 => ?_) (fun c90 => ?_)
                    · replace c90 := nT (a := t_) (b := mo) (by omega) (by omega) c90
                      omega
                    · replace c90 := nTn (a := t_) (b := mo) (by omega) (by omega) c90
                      refine v_iconst (v := nI 1) F dL_lines_180 (by decide) ?_
                      refine v_goto F 185 dL_lines_181 (by decide) ?_
                      refine v_istore (lv' := [(6, .int (nI 1)), (3, .int (nI (lvv + 0))), (8, .int (nI 0)), (2, .int (nI (nv + (nds T n mo (nI l) 128)))), (1, .int (nI (wv + (plc T n mo (nI l) 64)))), (7, .int (nI l)), (5, .int (nI 0)), (4, .int (nI 0)), (0, .ref (ad 0))]) F dL_lines_185 (by decide) rfl ?_
                      refine v_iinc (lv' := [(7, .int (nI (l + 1))), (6, .int (nI 1)), (3, .int (nI (lvv + 0))), (8, .int (nI 0)), (2, .int (nI (nv + (nds T n mo (nI l) 128)))), (1, .int (nI (wv + (plc T n mo (nI l) 64)))), (5, .int (nI 0)), (4, .int (nI 0)), (0, .ref (ad 0))]) F (nI (l + 1)) dL_lines_187 rfl (nI_add l 1) (by decide) rfl ?_
                      refine v_goto F 18 dL_lines_190 (by decide) ?_
                      refine v_st (w' := wC ad G (T, n, mo, ver) (S, h) u87.1 u87.2.1 u87.2.2 Tx Rd) (pc' := 18) (st' := []) rfl rfl rfl [0, 1, 6, 7, 2, 4, 5, 8] (lv' := [(7, .int (nI (l + 1))), (6, .int (nI 1)), (5, .int (nI 0)), (4, .int (nI 0)), (3, .int (nI (lvv + 0))), (2, .int (nI (nv + (nds T n mo (nI l) 128)))), (1, .int (nI (wv + (plc T n mo (nI l) 64)))), (0, .ref (ad 0))]) rfl ?_
                      exact ih18 (l + 1) (wv + (plc T n mo (nI l) 64)) (nv + (nds T n mo (nI l) 128)) (lvv + 0) u87.1 u87.2.1 u87.2.2 (by omega) (by omega) (by rw [hwv]; rfl) (by rw [hnv]; rfl) (by rw [hlvv, lvc, hlv]; rfl) (h89.1) (h89.2.1) (h89.2.2)
        · refine v_aload_n F dL_lines_70 0 rfl rfl ?_
          refine v_iconst (v := nI 0) F dL_lines_71 (by decide) ?_
          refine v_cVIF F cs_RL_15 dL_lines_72 0 (ci := 7) rfl rfl (m_X7_count lau G ad T n mo ver S h u54.1 u54.2.1 u54.2.2 Tx Rd 0 (by omega) (by omega) hT h56.1 h56.2.1 h56.2.2) (by decide) rfl rfl (Nat.le_of_ble_eq_true rfl) ⟨Nat.zero_le _, Nat.zero_le _⟩ (fun r91 u92 w93 => ?_)
          have h94 := w93.2
          refine v_topi ((cntV T n mo h 0)) w93.1 ?_
          refine v_topi (nI mo) (rfl) ?_
          refine v_aload_n F dL_lines_75 0 rfl rfl ?_
          refine v_iload F dL_lines_76 rfl ?_
          refine v_iconst (v := nI 5) F dL_lines_78 (by decide) ?_
          refine v_cVIF F cs_RL_9 dL_lines_79 0 (ci := 7) rfl rfl (m_X7_line lau G ad T n mo ver S h u92.1 u92.2.1 u92.2.2 Tx Rd l 5 (by omega) (by omega) (by omega) hT h94.1 h94.2.1 h94.2.2) (by decide) rfl rfl (Nat.le_of_ble_eq_true rfl) ⟨Nat.zero_le _, Nat.zero_le _⟩ (fun r95 u96 w97 => ?_)
          have h98 := w97.2
          refine v_topi ((linV T n mo l 5)) w97.1 ?_
          refine v_topi ((T (l * 6 + 5))) (rfl) ?_
          refine v_icmp_gt F 89 dL_lines_82 (by decide) (fun h82 => ?_) (fun h82 => ?_)
          · have hlv : lvB T l (nI mo) = false := by simp [lvB, inB, h82]
            refine v_iconst (v := nI 0) F dL_lines_89 (by decide) ?_
            refine v_istore (lv' := [(8, .int (nI 0)), (2, .int (nI (nv + (nds T n mo (nI l) 128)))), (1, .int (nI (wv + (plc T n mo (nI l) 64)))), (7, .int (nI l)), (6, .int (nI 1)), (5, .int (nI 0)), (4, .int (nI 0)), (3, .int (nI lvv)), (0, .ref (ad 0))]) F dL_lines_90 (by decide) rfl ?_
            refine v_iload_n F dL_lines_92 3 rfl rfl ?_
            refine v_iload F dL_lines_93 rfl ?_
            refine v_if_eq F 102 dL_lines_95 (by decide) (fun _ => ?_) (fun h => absurd h (by decide))
            refine v_iconst (v := nI 0) F dL_lines_102 (by decide) ?_
            refine v_iadd F dL_lines_103 ?_
            refine v_topi (nI (lvv + 0)) (nI_add lvv 0) ?_
            refine v_istore_n (lv' := [(3, .int (nI (lvv + 0))), (8, .int (nI 0)), (2, .int (nI (nv + (nds T n mo (nI l) 128)))), (1, .int (nI (wv + (plc T n mo (nI l) 64)))), (7, .int (nI l)), (6, .int (nI 1)), (5, .int (nI 0)), (4, .int (nI 0)), (0, .ref (ad 0))]) F dL_lines_104 3 rfl (by decide) rfl ?_
            refine v_aload_n F dL_lines_105 0 rfl rfl ?_
            refine v_iload F dL_lines_106 rfl ?_
            refine v_cVIF F cs_RL_69 dL_lines_108 0 (ci := 7) rfl rfl (m_X7_worth lau G ad T n mo ver S h u96.1 u96.2.1 u96.2.2 Tx Rd l (by omega) (by omega) hT h98.1 h98.2.1 h98.2.2) (by decide) rfl rfl (Nat.le_of_ble_eq_true rfl) ⟨Nat.zero_le _, Nat.zero_le _⟩ (fun r99 u100 w101 => ?_)
            have h102 := w101.2
            refine v_topi ((woV T n mo l)) w101.1 ?_
            refine v_iconst (v := (-1)) F dL_lines_111 (by decide) ?_
            refine v_icmp_lt F 184 dL_lines_112 (by decide) (fun c103 => ?_) (fun c103 => ?_)
            · exact absurd c103 (woV_ge hn hT hln)
            · refine v_iload F dL_lines_115 rfl ?_
              refine v_if_ne F 142 dL_lines_117 (by decide) (fun h => absurd h (by decide)) (fun _ => ?_)
              refine v_aload_n F dL_lines_120 0 rfl rfl ?_
              refine v_iload F dL_lines_121 rfl ?_
              refine v_bipush (v := nI 6) F dL_lines_123 (by decide) ?_
              refine v_cVIF F cs_RL_9 dL_lines_125 0 (ci := 7) rfl rfl (m_X7_line lau G ad T n mo ver S h u100.1 u100.2.1 u100.2.2 Tx Rd l 6 (by omega) (by omega) (by omega) hT h102.1 h102.2.1 h102.2.2) (by decide) rfl rfl (Nat.le_of_ble_eq_true rfl) ⟨Nat.zero_le _, Nat.zero_le _⟩ (fun r104 u105 w106 => ?_)
              have h107 := w106.2
              refine v_topi ((linV T n mo l 6)) w106.1 ?_
              refine v_topi (nI (plc T n mo (nI l) 64)) (rfl) ?_
              refine v_if_ne F 184 dL_lines_128 (by decide) (fun c108 => ?_) (fun c108 => ?_)
              · replace c108 := nEn (a := (plc T n mo (nI l) 64)) (b := 0) (by omega) (by decide) c108
                exact absurd (plc_dead hn hln hlv) c108
              · replace c108 := nE (a := (plc T n mo (nI l) 64)) (b := 0) (by omega) (by decide) c108
                refine v_aload_n F dL_lines_131 0 rfl rfl ?_
                refine v_iload F dL_lines_132 rfl ?_
                refine v_bipush (v := nI 7) F dL_lines_134 (by decide) ?_
                refine v_cVIF F cs_RL_9 dL_lines_136 0 (ci := 7) rfl rfl (m_X7_line lau G ad T n mo ver S h u105.1 u105.2.1 u105.2.2 Tx Rd l 7 (by omega) (by omega) (by omega) hT h107.1 h107.2.1 h107.2.2) (by decide) rfl rfl (Nat.le_of_ble_eq_true rfl) ⟨Nat.zero_le _, Nat.zero_le _⟩ (fun r109 u110 w111 => ?_)
                have h112 := w111.2
                refine v_topi ((linV T n mo l 7)) w111.1 ?_
                refine v_topi (nI (nds T n mo (nI l) 128)) (rfl) ?_
                refine v_if_ne F 184 dL_lines_139 (by decide) (fun c113 => ?_) (fun c113 => ?_)
                · replace c113 := nEn (a := (nds T n mo (nI l) 128)) (b := 0) (by omega) (by decide) c113
                  exact absurd (nds_dead hn hln hlv 128 (by decide)) c113
                · replace c113 := nE (a := (nds T n mo (nI l) 128)) (b := 0) (by omega) (by decide) c113
                  refine v_aload_n F dL_lines_142 0 rfl rfl ?_
                  refine v_iload F dL_lines_143 rfl ?_
                  refine v_bipush (v := nI 6) F dL_lines_145 (by decide) ?_
                  refine v_cVIF F cs_RL_9 dL_lines_147 0 (ci := 7) rfl rfl (m_X7_line lau G ad T n mo ver S h u110.1 u110.2.1 u110.2.2 Tx Rd l 6 (by omega) (by omega) (by omega) hT h112.1 h112.2.1 h112.2.2) (by decide) rfl rfl (Nat.le_of_ble_eq_true rfl) ⟨Nat.zero_le _, Nat.zero_le _⟩ (fun r114 u115 w116 => ?_)
                  have h117 := w116.2
                  refine v_topi ((linV T n mo l 6)) w116.1 ?_
                  refine v_topi (nI (plc T n mo (nI l) 64)) (rfl) ?_
                  refine v_if_eq F 180 dL_lines_150 (by decide) (fun c118 => ?_) (fun c118 => ?_)
                  · replace c118 := nE (a := (plc T n mo (nI l) 64)) (b := 0) (by omega) (by decide) c118
                    refine v_iconst (v := nI 1) F dL_lines_180 (by decide) ?_
                    refine v_goto F 185 dL_lines_181 (by decide) ?_
                    refine v_istore (lv' := [(6, .int (nI 1)), (3, .int (nI (lvv + 0))), (8, .int (nI 0)), (2, .int (nI (nv + (nds T n mo (nI l) 128)))), (1, .int (nI (wv + (plc T n mo (nI l) 64)))), (7, .int (nI l)), (5, .int (nI 0)), (4, .int (nI 0)), (0, .ref (ad 0))]) F dL_lines_185 (by decide) rfl ?_
                    refine v_iinc (lv' := [(7, .int (nI (l + 1))), (6, .int (nI 1)), (3, .int (nI (lvv + 0))), (8, .int (nI 0)), (2, .int (nI (nv + (nds T n mo (nI l) 128)))), (1, .int (nI (wv + (plc T n mo (nI l) 64)))), (5, .int (nI 0)), (4, .int (nI 0)), (0, .ref (ad 0))]) F (nI (l + 1)) dL_lines_187 rfl (nI_add l 1) (by decide) rfl ?_
                    refine v_goto F 18 dL_lines_190 (by decide) ?_
                    refine v_st (w' := wC ad G (T, n, mo, ver) (S, h) u115.1 u115.2.1 u115.2.2 Tx Rd) (pc' := 18) (st' := []) rfl rfl rfl [0, 1, 6, 7, 2, 4, 5, 8] (lv' := [(7, .int (nI (l + 1))), (6, .int (nI 1)), (5, .int (nI 0)), (4, .int (nI 0)), (3, .int (nI (lvv + 0))), (2, .int (nI (nv + (nds T n mo (nI l) 128)))), (1, .int (nI (wv + (plc T n mo (nI l) 64)))), (0, .ref (ad 0))]) rfl ?_
                    exact ih18 (l + 1) (wv + (plc T n mo (nI l) 64)) (nv + (nds T n mo (nI l) 128)) (lvv + 0) u115.1 u115.2.1 u115.2.2 (by omega) (by omega) (by rw [hwv]; rfl) (by rw [hnv]; rfl) (by rw [hlvv, lvc, hlv]; rfl) (h117.1) (h117.2.1) (h117.2.2)
                  · replace c118 := nEn (a := (plc T n mo (nI l) 64)) (b := 0) (by omega) (by decide) c118
                    obtain ⟨t_, ht1, ht2⟩ := fmo_in hn hT hmo hln c118
                    refine v_aload_n F dL_lines_153 0 rfl rfl ?_
                    refine v_iload F dL_lines_154 rfl ?_
                    refine v_bipush (v := nI 8) F dL_lines_156 (by decide) ?_
                    refine v_cVIF F cs_RL_9 dL_lines_158 0 (ci := 7) rfl rfl (m_X7_line lau G ad T n mo ver S h u115.1 u115.2.1 u115.2.2 Tx Rd l 8 (by omega) (by omega) (by omega) hT h117.1 h117.2.1 h117.2.2) (by decide) rfl rfl (Nat.le_of_ble_eq_true rfl) ⟨Nat.zero_le _, Nat.zero_le _⟩ (fun r119 u120 w121 => ?_)
                    have h122 := w121.2
                    refine v_topi ((linV T n mo l 8)) w121.1 ?_
                    refine v_topi (nI t_) (ht2) ?_
                    refine v_if_lt F 184 dL_lines_161 (by decide) (fun c123 => ?_) (fun c123 => ?_)
                    · replace c123 := nL (a := t_) (b := 0) (by omega) (by decide) c123
                      exact absurd c123 (Nat.not_lt_zero _)
                    · replace c123 := nLn (a := t_) (b := 0) (by omega) (by decide) c123
                      refine v_aload_n F dL_lines_164 0 rfl rfl ?_
                      refine v_iload F dL_lines_165 rfl ?_
                      refine v_bipush (v := nI 8) F dL_lines_167 (by decide) ?_
                      refine v_cVIF F cs_RL_9 dL_lines_169 0 (ci := 7) rfl rfl (m_X7_line lau G ad T n mo ver S h u120.1 u120.2.1 u120.2.2 Tx Rd l 8 (by omega) (by omega) (by omega) hT h122.1 h122.2.1 h122.2.2) (by decide) rfl rfl (Nat.le_of_ble_eq_true rfl) ⟨Nat.zero_le _, Nat.zero_le _⟩ (fun r124 u125 w126 => ?_)
                      have h127 := w126.2
                      refine v_topi ((linV T n mo l 8)) w126.1 ?_
                      refine v_topi (nI t_) (ht2) ?_
                      refine v_aload_n F dL_lines_172 0 rfl rfl ?_
                      refine v_iconst (v := nI 0) F dL_lines_173 (by decide) ?_
                      refine v_cVIF F cs_RL_15 dL_lines_174 0 (ci := 7) rfl rfl (m_X7_count lau G ad T n mo ver S h u125.1 u125.2.1 u125.2.2 Tx Rd 0 (by omega) (by omega) hT h127.1 h127.2.1 h127.2.2) (by decide) rfl rfl (Nat.le_of_ble_eq_true rfl) ⟨Nat.zero_le _, Nat.zero_le _⟩ (fun r128 u129 w130 => ?_)
                      have h131 := w130.2
                      refine v_topi ((cntV T n mo h 0)) w130.1 ?_
                      refine v_topi (nI mo) (rfl) ?_
                      refine v_icmp_gt F 184 dL_lines_177 (by decide) (fun c132 => ?_) (fun c132 => ?_)
                      · replace c132 := nT (a := t_) (b := mo) (by omega) (by omega) c132
                        omega
                      · replace c132 := nTn (a := t_) (b := mo) (by omega) (by omega) c132
                        refine v_iconst (v := nI 1) F dL_lines_180 (by decide) ?_
                        refine v_goto F 185 dL_lines_181 (by decide) ?_
                        refine v_istore (lv' := [(6, .int (nI 1)), (3, .int (nI (lvv + 0))), (8, .int (nI 0)), (2, .int (nI (nv + (nds T n mo (nI l) 128)))), (1, .int (nI (wv + (plc T n mo (nI l) 64)))), (7, .int (nI l)), (5, .int (nI 0)), (4, .int (nI 0)), (0, .ref (ad 0))]) F dL_lines_185 (by decide) rfl ?_
                        refine v_iinc (lv' := [(7, .int (nI (l + 1))), (6, .int (nI 1)), (3, .int (nI (lvv + 0))), (8, .int (nI 0)), (2, .int (nI (nv + (nds T n mo (nI l) 128)))), (1, .int (nI (wv + (plc T n mo (nI l) 64)))), (5, .int (nI 0)), (4, .int (nI 0)), (0, .ref (ad 0))]) F (nI (l + 1)) dL_lines_187 rfl (nI_add l 1) (by decide) rfl ?_
                        refine v_goto F 18 dL_lines_190 (by decide) ?_
                        refine v_st (w' := wC ad G (T, n, mo, ver) (S, h) u129.1 u129.2.1 u129.2.2 Tx Rd) (pc' := 18) (st' := []) rfl rfl rfl [0, 1, 6, 7, 2, 4, 5, 8] (lv' := [(7, .int (nI (l + 1))), (6, .int (nI 1)), (5, .int (nI 0)), (4, .int (nI 0)), (3, .int (nI (lvv + 0))), (2, .int (nI (nv + (nds T n mo (nI l) 128)))), (1, .int (nI (wv + (plc T n mo (nI l) 64)))), (0, .ref (ad 0))]) rfl ?_
                        exact ih18 (l + 1) (wv + (plc T n mo (nI l) 64)) (nv + (nds T n mo (nI l) 128)) (lvv + 0) u129.1 u129.2.1 u129.2.2 (by omega) (by omega) (by rw [hwv]; rfl) (by rw [hnv]; rfl) (by rw [hlvv, lvc, hlv]; rfl) (h131.1) (h131.2.1) (h131.2.2)
          · have hlv : lvB T l (nI mo) = true := by simp [lvB, inB, h67, h82]
            refine v_iconst (v := nI 1) F dL_lines_85 (by decide) ?_
            refine v_goto F 90 dL_lines_86 (by decide) ?_
            refine v_istore (lv' := [(8, .int (nI 1)), (2, .int (nI (nv + (nds T n mo (nI l) 128)))), (1, .int (nI (wv + (plc T n mo (nI l) 64)))), (7, .int (nI l)), (6, .int (nI 1)), (5, .int (nI 0)), (4, .int (nI 0)), (3, .int (nI lvv)), (0, .ref (ad 0))]) F dL_lines_90 (by decide) rfl ?_
            refine v_iload_n F dL_lines_92 3 rfl rfl ?_
            refine v_iload F dL_lines_93 rfl ?_
            refine v_if_eq F 102 dL_lines_95 (by decide) (fun h => absurd h (by decide)) (fun _ => ?_)
            refine v_iconst (v := nI 1) F dL_lines_98 (by decide) ?_
            refine v_goto F 103 dL_lines_99 (by decide) ?_
            refine v_iadd F dL_lines_103 ?_
            refine v_topi (nI (lvv + 1)) (nI_add lvv 1) ?_
            refine v_istore_n (lv' := [(3, .int (nI (lvv + 1))), (8, .int (nI 1)), (2, .int (nI (nv + (nds T n mo (nI l) 128)))), (1, .int (nI (wv + (plc T n mo (nI l) 64)))), (7, .int (nI l)), (6, .int (nI 1)), (5, .int (nI 0)), (4, .int (nI 0)), (0, .ref (ad 0))]) F dL_lines_104 3 rfl (by decide) rfl ?_
            refine v_aload_n F dL_lines_105 0 rfl rfl ?_
            refine v_iload F dL_lines_106 rfl ?_
            refine v_cVIF F cs_RL_69 dL_lines_108 0 (ci := 7) rfl rfl (m_X7_worth lau G ad T n mo ver S h u96.1 u96.2.1 u96.2.2 Tx Rd l (by omega) (by omega) hT h98.1 h98.2.1 h98.2.2) (by decide) rfl rfl (Nat.le_of_ble_eq_true rfl) ⟨Nat.zero_le _, Nat.zero_le _⟩ (fun r133 u134 w135 => ?_)
            have h136 := w135.2
            refine v_topi ((woV T n mo l)) w135.1 ?_
            refine v_iconst (v := (-1)) F dL_lines_111 (by decide) ?_
            refine v_icmp_lt F 184 dL_lines_112 (by decide) (fun c137 => ?_) (fun c137 => ?_)
            · exact absurd c137 (woV_ge hn hT hln)
            · refine v_iload F dL_lines_115 rfl ?_
              refine v_if_ne F 142 dL_lines_117 (by decide) (fun _ => ?_) (fun h => absurd h (by decide))
              refine v_aload_n F dL_lines_142 0 rfl rfl ?_
              refine v_iload F dL_lines_143 rfl ?_
              refine v_bipush (v := nI 6) F dL_lines_145 (by decide) ?_
              refine v_cVIF F cs_RL_9 dL_lines_147 0 (ci := 7) rfl rfl (m_X7_line lau G ad T n mo ver S h u134.1 u134.2.1 u134.2.2 Tx Rd l 6 (by omega) (by omega) (by omega) hT h136.1 h136.2.1 h136.2.2) (by decide) rfl rfl (Nat.le_of_ble_eq_true rfl) ⟨Nat.zero_le _, Nat.zero_le _⟩ (fun r138 u139 w140 => ?_)
              have h141 := w140.2
              refine v_topi ((linV T n mo l 6)) w140.1 ?_
              refine v_topi (nI (plc T n mo (nI l) 64)) (rfl) ?_
              refine v_if_eq F 180 dL_lines_150 (by decide) (fun c142 => ?_) (fun c142 => ?_)
              · replace c142 := nE (a := (plc T n mo (nI l) 64)) (b := 0) (by omega) (by decide) c142
                refine v_iconst (v := nI 1) F dL_lines_180 (by decide) ?_
                refine v_goto F 185 dL_lines_181 (by decide) ?_
                refine v_istore (lv' := [(6, .int (nI 1)), (3, .int (nI (lvv + 1))), (8, .int (nI 1)), (2, .int (nI (nv + (nds T n mo (nI l) 128)))), (1, .int (nI (wv + (plc T n mo (nI l) 64)))), (7, .int (nI l)), (5, .int (nI 0)), (4, .int (nI 0)), (0, .ref (ad 0))]) F dL_lines_185 (by decide) rfl ?_
                refine v_iinc (lv' := [(7, .int (nI (l + 1))), (6, .int (nI 1)), (3, .int (nI (lvv + 1))), (8, .int (nI 1)), (2, .int (nI (nv + (nds T n mo (nI l) 128)))), (1, .int (nI (wv + (plc T n mo (nI l) 64)))), (5, .int (nI 0)), (4, .int (nI 0)), (0, .ref (ad 0))]) F (nI (l + 1)) dL_lines_187 rfl (nI_add l 1) (by decide) rfl ?_
                refine v_goto F 18 dL_lines_190 (by decide) ?_
                refine v_st (w' := wC ad G (T, n, mo, ver) (S, h) u139.1 u139.2.1 u139.2.2 Tx Rd) (pc' := 18) (st' := []) rfl rfl rfl [0, 1, 6, 7, 2, 4, 5, 8] (lv' := [(7, .int (nI (l + 1))), (6, .int (nI 1)), (5, .int (nI 0)), (4, .int (nI 0)), (3, .int (nI (lvv + 1))), (2, .int (nI (nv + (nds T n mo (nI l) 128)))), (1, .int (nI (wv + (plc T n mo (nI l) 64)))), (0, .ref (ad 0))]) rfl ?_
                exact ih18 (l + 1) (wv + (plc T n mo (nI l) 64)) (nv + (nds T n mo (nI l) 128)) (lvv + 1) u139.1 u139.2.1 u139.2.2 (by omega) (by omega) (by rw [hwv]; rfl) (by rw [hnv]; rfl) (by rw [hlvv, lvc, hlv]; rfl) (h141.1) (h141.2.1) (h141.2.2)
              · replace c142 := nEn (a := (plc T n mo (nI l) 64)) (b := 0) (by omega) (by decide) c142
                obtain ⟨t_, ht1, ht2⟩ := fmo_in hn hT hmo hln c142
                refine v_aload_n F dL_lines_153 0 rfl rfl ?_
                refine v_iload F dL_lines_154 rfl ?_
                refine v_bipush (v := nI 8) F dL_lines_156 (by decide) ?_
                refine v_cVIF F cs_RL_9 dL_lines_158 0 (ci := 7) rfl rfl (m_X7_line lau G ad T n mo ver S h u139.1 u139.2.1 u139.2.2 Tx Rd l 8 (by omega) (by omega) (by omega) hT h141.1 h141.2.1 h141.2.2) (by decide) rfl rfl (Nat.le_of_ble_eq_true rfl) ⟨Nat.zero_le _, Nat.zero_le _⟩ (fun r143 u144 w145 => ?_)
                have h146 := w145.2
                refine v_topi ((linV T n mo l 8)) w145.1 ?_
                refine v_topi (nI t_) (ht2) ?_
                refine v_if_lt F 184 dL_lines_161 (by decide) (fun c147 => ?_) (fun c147 => ?_)
                · replace c147 := nL (a := t_) (b := 0) (by omega) (by decide) c147
                  exact absurd c147 (Nat.not_lt_zero _)
                · replace c147 := nLn (a := t_) (b := 0) (by omega) (by decide) c147
                  refine v_aload_n F dL_lines_164 0 rfl rfl ?_
                  refine v_iload F dL_lines_165 rfl ?_
                  refine v_bipush (v := nI 8) F dL_lines_167 (by decide) ?_
                  refine v_cVIF F cs_RL_9 dL_lines_169 0 (ci := 7) rfl rfl (m_X7_line lau G ad T n mo ver S h u144.1 u144.2.1 u144.2.2 Tx Rd l 8 (by omega) (by omega) (by omega) hT h146.1 h146.2.1 h146.2.2) (by decide) rfl rfl (Nat.le_of_ble_eq_true rfl) ⟨Nat.zero_le _, Nat.zero_le _⟩ (fun r148 u149 w150 => ?_)
                  have h151 := w150.2
                  refine v_topi ((linV T n mo l 8)) w150.1 ?_
                  refine v_topi (nI t_) (ht2) ?_
                  refine v_aload_n F dL_lines_172 0 rfl rfl ?_
                  refine v_iconst (v := nI 0) F dL_lines_173 (by decide) ?_
                  refine v_cVIF F cs_RL_15 dL_lines_174 0 (ci := 7) rfl rfl (m_X7_count lau G ad T n mo ver S h u149.1 u149.2.1 u149.2.2 Tx Rd 0 (by omega) (by omega) hT h151.1 h151.2.1 h151.2.2) (by decide) rfl rfl (Nat.le_of_ble_eq_true rfl) ⟨Nat.zero_le _, Nat.zero_le _⟩ (fun r152 u153 w154 => ?_)
                  have h155 := w154.2
                  refine v_topi ((cntV T n mo h 0)) w154.1 ?_
                  refine v_topi (nI mo) (rfl) ?_
                  refine v_icmp_gt F 184 dL_lines_177 (by decide) (fun c156 => ?_) (fun c156 => ?_)
                  · replace c156 := nT (a := t_) (b := mo) (by omega) (by omega) c156
                    omega
                  · replace c156 := nTn (a := t_) (b := mo) (by omega) (by omega) c156
                    refine v_iconst (v := nI 1) F dL_lines_180 (by decide) ?_
                    refine v_goto F 185 dL_lines_181 (by decide) ?_
                    refine v_istore (lv' := [(6, .int (nI 1)), (3, .int (nI (lvv + 1))), (8, .int (nI 1)), (2, .int (nI (nv + (nds T n mo (nI l) 128)))), (1, .int (nI (wv + (plc T n mo (nI l) 64)))), (7, .int (nI l)), (5, .int (nI 0)), (4, .int (nI 0)), (0, .ref (ad 0))]) F dL_lines_185 (by decide) rfl ?_
                    refine v_iinc (lv' := [(7, .int (nI (l + 1))), (6, .int (nI 1)), (3, .int (nI (lvv + 1))), (8, .int (nI 1)), (2, .int (nI (nv + (nds T n mo (nI l) 128)))), (1, .int (nI (wv + (plc T n mo (nI l) 64)))), (5, .int (nI 0)), (4, .int (nI 0)), (0, .ref (ad 0))]) F (nI (l + 1)) dL_lines_187 rfl (nI_add l 1) (by decide) rfl ?_
                    refine v_goto F 18 dL_lines_190 (by decide) ?_
                    refine v_st (w' := wC ad G (T, n, mo, ver) (S, h) u153.1 u153.2.1 u153.2.2 Tx Rd) (pc' := 18) (st' := []) rfl rfl rfl [0, 1, 6, 7, 2, 4, 5, 8] (lv' := [(7, .int (nI (l + 1))), (6, .int (nI 1)), (5, .int (nI 0)), (4, .int (nI 0)), (3, .int (nI (lvv + 1))), (2, .int (nI (nv + (nds T n mo (nI l) 128)))), (1, .int (nI (wv + (plc T n mo (nI l) 64)))), (0, .ref (ad 0))]) rfl ?_
                    exact ih18 (l + 1) (wv + (plc T n mo (nI l) 64)) (nv + (nds T n mo (nI l) 128)) (lvv + 1) u153.1 u153.2.1 u153.2.2 (by omega) (by omega) (by rw [hwv]; rfl) (by rw [hnv]; rfl) (by rw [hlvv, lvc, hlv]; rfl) (h155.1) (h155.2.1) (h155.2.2)
  refine v_st (w' := wC ad G (T, n, mo, ver) (S, h) P Tr Rg Tx Rd) (pc' := 18) (st' := []) rfl rfl rfl [0, 1, 2, 3, 4, 5, 6, 7] (lv' := [(7, .int (nI 0)), (6, .int (nI 1)), (5, .int (nI 0)), (4, .int (nI 0)), (3, .int (nI 0)), (2, .int (nI 0)), (1, .int (nI 0)), (0, .ref (ad 0))]) rfl ?_
  exact L18 _ 0 0 0 0 P Tr Rg (Nat.lt_succ_self _) (by omega) (rfl) (rfl) (rfl) (hP) (hC) (hR)
