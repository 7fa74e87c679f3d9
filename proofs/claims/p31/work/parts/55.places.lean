/-! the law: rows, sums and orders -/
theorem v_topd {p : Program} {l : Launch} {e : Env} {R : Room} {s : State} {m : MethodId} {args : Array Value} {below : List Frame} {meth : Method} {c : Code} {nL : Nat} {G : GT} {A : Nat → Prop} {Q : State → Prop} {w : va_W} {kc ks pc : Nat} {lv : List (Nat × Value)} {st : List Value} {x : UInt64} (y : UInt64) (h : x = y) (k : V p l e R s m args below meth c nL G A Q w kc ks pc lv (.double y :: st)) : V p l e R s m args below meth c nL G A Q w kc ks pc lv (.double x :: st) := h ▸ k
theorem cs_RL_48 : CSV RL 48 RX7 yX7_row cX7_row 4 (some .int) 2 := ⟨wC_yX7_row, wM_RL_48, wIm_yX7_row, wSe_yX7_row, wI_RX7, by decide +kernel, by decide⟩
theorem cs_RL_51 : CSV RL 51 RX7 yX7_lowest cX7_lowest 3 (some .int) 2 := ⟨wC_yX7_lowest, wM_RL_51, wIm_yX7_lowest, wSe_yX7_lowest, wI_RX7, by decide +kernel, by decide⟩
theorem cs_RL_54 : CSV RL 54 RX7 yX7_ranked cX7_ranked 4 (some .int) 2 := ⟨wC_yX7_ranked, wM_RL_54, wIm_yX7_ranked, wSe_yX7_ranked, wI_RX7, by decide +kernel, by decide⟩
theorem cs_RL_57 : CSS RL 57 yL_lowest cL_lowest 5 (some .int) 3 := ⟨wC_yL_lowest, wM_RL_57, wSt_yL_lowest, wI_RL, by decide +kernel, by decide⟩
theorem cs_RL_62 : CSV RL 62 RX7 yX7_sum cX7_sum 6 (some .int) 2 := ⟨wC_yX7_sum, wM_RL_62, wIm_yX7_sum, wSe_yX7_sum, wI_RX7, by decide +kernel, by decide⟩
theorem cs_RL_65 : CSV RL 65 RX7 yX7_mean cX7_mean 2 (some .double) 0 := ⟨wC_yX7_mean, wM_RL_65, wIm_yX7_mean, wSe_yX7_mean, wI_RX7, by decide +kernel, by decide⟩
set_option maxHeartbeats 4000000 in
set_option maxRecDepth 100000 in
theorem z_L_places (lau : Launch) (G : GT) (ad : Nat → Nat) (T : Nat → Int32) (n mo ver : Nat) (S : Nat → Int32) (h : Nat) (P : PT) (Tr : TT) (Rg : RT) (co : Nat → Int32) (len : Nat) (Rd : DT) {sb L : Nat} {xs : Nat → Int32} (hmo : mo < 100) (hn : n ≤ 20) (hT : TOK T n) (hP : PCI T n mo ver P) (hC : TCI T n mo ver Tr) (hR : RCI T n ver Rg) (hst : lau.stackTraces = false) : HZ lau G 20 yL_places cL_places 12 (some .boolean) [.ref (ad 0)] (wC ad G (T, n, mo, ver) (S, h) P Tr Rg (co, len) Rd) (fun u : PT × TT × RT => wC ad G (T, n, mo, ver) (S, h) u.1 u.2.1 u.2.2 (co, len) Rd) (fun r u => r = 1 ∧ PCI T n mo ver u.1 ∧ TCI T n mo ver u.2.1 ∧ RCI T n ver u.2.2) 64 384 sb L xs := by
  have hrp := rc_pos (T := T) (n := n) (mo := mo)
  have hrc := rc_le T n mo 64
  have hb64 := plc_b (T := T) (n := n) (mo := mo) (ln := -1) 64
  refine hz_of (by decide +kernel) (Nat.le_of_ble_eq_true rfl) ?_
  intro p e s m args below meth c A Q F hr hlk hQ hSF hSH hNC hX hbl hbA
  refine v_st (w' := wC ad G (T, n, mo, ver) (S, h) P Tr Rg (co, len) Rd) (pc' := 0) (st' := []) rfl rfl rfl [0] (lv' := [(0, .ref (ad 0))]) rfl ?_
  refine v_aload_n F dL_places_0 0 rfl rfl ?_
  refine v_iconst (v := nI 3) F dL_places_1 (by decide) ?_
  refine v_cVIF F cs_RL_15 dL_places_2 0 (ci := 7) rfl rfl (m_X7_count lau G ad T n mo ver S h P Tr Rg (co, len) Rd 3 (by omega) (by omega) hT hP hC hR) (by decide) rfl rfl (Nat.le_of_ble_eq_true rfl) ⟨by show 0 ≤ 64; omega, by show 0 ≤ 384; omega⟩ (fun r1 u2 w3 => ?_)
  have h4 := w3.2
  refine v_topi ((cntV T n mo h 3)) w3.1 ?_
  refine v_topi (nI (rc T n mo 64)) (rfl) ?_
  refine v_istore_n (lv' := [(1, .int (nI (rc T n mo 64))), (0, .ref (ad 0))]) F dL_places_5 1 rfl (by decide) rfl ?_
  refine v_iconst (v := nI 0) F dL_places_6 (by decide) ?_
  refine v_istore_n (lv' := [(2, .int (nI 0)), (1, .int (nI (rc T n mo 64))), (0, .ref (ad 0))]) F dL_places_7 2 rfl (by decide) rfl ?_
  refine v_iconst (v := nI 0) F dL_places_8 (by decide) ?_
  refine v_istore_n (lv' := [(3, .int (nI 0)), (2, .int (nI 0)), (1, .int (nI (rc T n mo 64))), (0, .ref (ad 0))]) F dL_places_9 3 rfl (by decide) rfl ?_
  refine v_iconst (v := nI 0) F dL_places_10 (by decide) ?_
  refine v_istore (lv' := [(4, .int (nI 0)), (3, .int (nI 0)), (2, .int (nI 0)), (1, .int (nI (rc T n mo 64))), (0, .ref (ad 0))]) F dL_places_11 (by decide) rfl ?_
  refine v_bipush (v := (-2)) F dL_places_13 (by decide) ?_
  refine v_istore (lv' := [(5, .int (-2)), (4, .int (nI 0)), (3, .int (nI 0)), (2, .int (nI 0)), (1, .int (nI (rc T n mo 64))), (0, .ref (ad 0))]) F dL_places_15 (by decide) rfl ?_
  refine v_iload_n F dL_places_17 1 rfl rfl ?_
  refine v_if_le F 25 dL_places_18 (by decide) (fun c5 => ?_) (fun c5 => ?_)
  · replace c5 := nK (a := (rc T n mo 64)) (b := 0) (by omega) (by decide) c5
    omega
  · replace c5 := nKn (a := (rc T n mo 64)) (b := 0) (by omega) (by decide) c5
    refine v_iconst (v := nI 1) F dL_places_21 (by decide) ?_
    refine v_goto F 26 dL_places_22 (by decide) ?_
    refine v_istore (lv' := [(6, .int (nI 1)), (5, .int (-2)), (4, .int (nI 0)), (3, .int (nI 0)), (2, .int (nI 0)), (1, .int (nI (rc T n mo 64))), (0, .ref (ad 0))]) F dL_places_26 (by decide) rfl ?_
    refine v_iconst (v := nI 0) F dL_places_28 (by decide) ?_
    refine v_istore (lv' := [(7, .int (nI 0)), (6, .int (nI 1)), (5, .int (-2)), (4, .int (nI 0)), (3, .int (nI 0)), (2, .int (nI 0)), (1, .int (nI (rc T n mo 64))), (0, .ref (ad 0))]) F dL_places_29 (by decide) rfl ?_
    have L31 : ∀ (k_ : Nat) (k : Nat) (at_ : Nat) (sv : Int32) (bv : Nat) (be : Int32) (P_ : PT) (Tr_ : TT) (Rg_ : RT), rc T n mo 64 - k < k_ → (k ≤ rc T n mo 64) → (at_ = rowS T n mo k) → (sv = sm T n mo 0 at_) → (bv = plc T n mo (-1) at_) → (k < rc T n mo 64 → ¬ plo T n mo (rowS T n mo k) = be) → (PCI T n mo ver P_) → (TCI T n mo ver Tr_) → (RCI T n ver Rg_) → V p lau e (RC 20 64 384) s m args below meth c 12 G A Q (wC ad G (T, n, mo, ver) (S, h) P_ Tr_ Rg_ (co, len) Rd) at_ (6 * at_) 31 [(7, .int (nI k)), (6, .int (nI 1)), (5, .int be), (4, .int (nI bv)), (3, .int sv), (2, .int (nI at_)), (1, .int (nI (rc T n mo 64))), (0, .ref (ad 0))] [] := by
      intro k_
      induction k_ with
      | zero => exact fun k at_ sv bv be P_ Tr_ Rg_ hk_ hk hat hsv hbv hbe hP_ hC_ hR_ => absurd hk_ (Nat.not_lt_zero _)
      | succ k_ ih31 =>
        intro k at_ sv bv be P_ Tr_ Rg_ hk_31 hk hat hsv hbv hbe hP_ hC_ hR_
        have hat64 : at_ ≤ 64 := by rw [hat]; exact fst0_le _ _
        refine v_iload F dL_places_31 rfl ?_
        refine v_iload_n F dL_places_33 1 rfl rfl ?_
        refine v_icmp_ge F 295 dL_places_34 (by decide) (fun hkr => ?_) (fun hkr => ?_)
        · replace hkr := nG (a := k) (b := (rc T n mo 64)) (by omega) (by omega) hkr
          have hk9 : k = rc T n mo 64 := by omega
          have hat9 : at_ = 64 := by rw [hat, hk9]; exact rowS_end
          rw [hat9] at hsv hbv
          refine v_iload F dL_places_295 rfl ?_
          refine v_if_eq F 357 dL_places_297 (by decide) (fun h => absurd h (by decide)) (fun _ => ?_)
          refine v_iload_n F dL_places_300 2 rfl rfl ?_
          refine v_bipush (v := nI 64) F dL_places_301 (by decide) ?_
          refine v_icmp_ne F 357 dL_places_303 (by decide) (fun c6 => ?_) (fun c6 => ?_)
          · replace c6 := nEn (a := at_) (b := 64) (by omega) (by decide) c6
            omega
          · replace c6 := nE (a := at_) (b := 64) (by omega) (by decide) c6
            refine v_aload_n F dL_places_306 0 rfl rfl ?_
            refine v_iload_n F dL_places_307 1 rfl rfl ?_
            refine v_iconst (v := nI 0) F dL_places_308 (by decide) ?_
            refine v_cVIF F cs_RL_48 dL_places_309 0 (ci := 7) rfl rfl (m_X7_row lau G ad T n mo ver S h P_ Tr_ Rg_ (co, len) Rd (rc T n mo 64) 0 (by omega) (by omega) (by omega) hT hP_ hC_ hR_) (by decide) rfl rfl (Nat.le_of_ble_eq_true rfl) ⟨by show at_ ≤ 64; omega, by show 6 * at_ ≤ 384; omega⟩ (fun r7 u8 w9 => ?_)
            have h10 := w9.2
            refine v_topi ((rowV T n mo (rc T n mo 64) 0)) w9.1 ?_
            refine v_topi ((-1)) (by rw [rowV, if_neg (by omega)]) ?_
            refine v_iconst (v := (-1)) F dL_places_312 (by decide) ?_
            refine v_icmp_ne F 357 dL_places_313 (by decide) (fun h => absurd h (by decide)) (fun _ => ?_)
            refine v_iload_n F dL_places_316 3 rfl rfl ?_
            refine v_aload_n F dL_places_317 0 rfl rfl ?_
            refine v_iconst (v := nI 0) F dL_places_318 (by decide) ?_
            refine v_bipush (v := nI 63) F dL_places_319 (by decide) ?_
            refine v_cVIF F cs_RL_62 dL_places_321 0 (ci := 7) rfl rfl (m_X7_sum lau G ad T n mo ver S h u8.1 u8.2.1 u8.2.2 (co, len) Rd 0 63 (by omega) (by omega) (by omega) hT h10.1 h10.2.1 h10.2.2) (by decide) rfl rfl (Nat.le_of_ble_eq_true rfl) ⟨by show at_ ≤ 64; omega, by show 6 * at_ ≤ 384; omega⟩ (fun r11 u12 w13 => ?_)
            have h14 := w13.2
            refine v_topi ((sm T n mo 0 (63 + 1 - 0))) w13.1 ?_
            refine v_topi ((sm T n mo 0 64)) (rfl) ?_
            refine v_icmp_ne F 357 dL_places_324 (by decide) (fun c15 => ?_) (fun c15 => ?_)
            · exact absurd hsv c15
            · refine v_iload F dL_places_327 rfl ?_
              refine v_aload_n F dL_places_329 0 rfl rfl ?_
              refine v_iconst (v := nI 4) F dL_places_330 (by decide) ?_
              refine v_cVIF F cs_RL_15 dL_places_331 0 (ci := 7) rfl rfl (m_X7_count lau G ad T n mo ver S h u12.1 u12.2.1 u12.2.2 (co, len) Rd 4 (by omega) (by omega) hT h14.1 h14.2.1 h14.2.2) (by decide) rfl rfl (Nat.le_of_ble_eq_true rfl) ⟨by show at_ ≤ 64; omega, by show 6 * at_ ≤ 384; omega⟩ (fun r16 u17 w18 => ?_)
              have h19 := w18.2
              refine v_topi ((cntV T n mo h 4)) w18.1 ?_
              refine v_topi (nI (plc T n mo (-1) 64)) (rfl) ?_
              refine v_icmp_ne F 357 dL_places_334 (by decide) (fun c20 => ?_) (fun c20 => ?_)
              · replace c20 := nEn (a := bv) (b := (plc T n mo (-1) 64)) (by omega) (by omega) c20
                omega
              · replace c20 := nE (a := bv) (b := (plc T n mo (-1) 64)) (by omega) (by omega) c20
                refine v_iload F dL_places_337 rfl ?_
                refine v_bipush (v := nI 64) F dL_places_339 (by decide) ?_
                refine v_icmp_lt F 353 dL_places_341 (by decide) (fun c21 => ?_) (fun c21 => ?_)
                · replace c21 := nL (a := bv) (b := 64) (by omega) (by decide) c21
                  refine v_iconst (v := nI 1) F dL_places_353 (by decide) ?_
                  refine v_goto F 358 dL_places_354 (by decide) ?_
                  refine v_widen (k' := 64) (n' := 384) (by omega) (by omega) ?_
                  exact v_zret F hr hlk hQ rfl dL_places_358 ((u17.1, u17.2.1, u17.2.2)) rfl (by refine ⟨?_, h19.1, h19.2.1, h19.2.2⟩; rfl)
                · replace c21 := nLn (a := bv) (b := 64) (by omega) (by decide) c21
                  refine v_aload_n F dL_places_344 0 rfl rfl ?_
                  refine v_cVDF F cs_RL_65 dL_places_345 0 (ci := 7) rfl rfl (m_X7_mean lau G ad T n mo ver S h u17.1 u17.2.1 u17.2.2 (co, len) Rd (by omega) hT h19.1 h19.2.1 h19.2.2) (by decide) rfl rfl (Nat.le_of_ble_eq_true rfl) ⟨by show at_ ≤ 64; omega, by show 6 * at_ ≤ 384; omega⟩ (fun r22 u23 w24 => ?_)
                  have h25 := w24.2
                  refine v_topd (meanV T n mo) w24.1 ?_
                  refine v_topd (FP.dconst0) (by rw [meanV, if_pos (by omega)]) ?_
                  refine v_dconst0 F dL_places_348 ?_
                  refine v_dcmp F dL_places_349 ?_
                  refine v_if_ne F 357 dL_places_350 (by decide) (fun c26 => ?_) (fun c26 => ?_)
                  · exact absurd (by decide +kernel) c26
                  · refine v_iconst (v := nI 1) F dL_places_353 (by decide) ?_
                    refine v_goto F 358 dL_places_354 (by decide) ?_
                    refine v_widen (k' := 64) (n' := 384) (by omega) (by omega) ?_
                    exact v_zret F hr hlk hQ rfl dL_places_358 ((u23.1, u23.2.1, u23.2.2)) rfl (by refine ⟨?_, h25.1, h25.2.1, h25.2.2⟩; rfl)
        · replace hkr := nGn (a := k) (b := (rc T n mo 64)) (by omega) (by omega) hkr
          obtain ⟨hr1, hr2⟩ := rowS_step (T := T) (n := n) (mo := mo) hkr
          refine v_iload F dL_places_37 rfl ?_
          refine v_if_eq F 295 dL_places_39 (by decide) (fun h => absurd h (by decide)) (fun _ => ?_)
          refine v_aload_n F dL_places_42 0 rfl rfl ?_
          refine v_iload F dL_places_43 rfl ?_
          refine v_iconst (v := nI 1) F dL_places_45 (by decide) ?_
          refine v_cVIF F cs_RL_48 dL_places_46 0 (ci := 7) rfl rfl (m_X7_row lau G ad T n mo ver S h P_ Tr_ Rg_ (co, len) Rd k 1 (by omega) (by omega) (by omega) hT hP_ hC_ hR_) (by decide) rfl rfl (Nat.le_of_ble_eq_true rfl) ⟨by show at_ ≤ 64; omega, by show 6 * at_ ≤ 384; omega⟩ (fun r27 u28 w29 => ?_)
          have h30 := w29.2
          refine v_topi ((rowV T n mo k 1)) w29.1 ?_
          refine v_topi (nI (rowS T n mo (k + 1) - at_)) (by rw [rowV, if_pos hkr, ← hat]; exact pk_sub (by omega)) ?_
          refine v_istore (lv' := [(8, .int (nI (rowS T n mo (k + 1) - at_))), (7, .int (nI k)), (6, .int (nI 1)), (5, .int be), (4, .int (nI bv)), (3, .int sv), (2, .int (nI at_)), (1, .int (nI (rc T n mo 64))), (0, .ref (ad 0))]) F dL_places_49 (by decide) rfl ?_
          refine v_aload_n F dL_places_51 0 rfl rfl ?_
          refine v_iload F dL_places_52 rfl ?_
          refine v_iconst (v := nI 2) F dL_places_54 (by decide) ?_
          refine v_cVIF F cs_RL_48 dL_places_55 0 (ci := 7) rfl rfl (m_X7_row lau G ad T n mo ver S h u28.1 u28.2.1 u28.2.2 (co, len) Rd k 2 (by omega) (by omega) (by omega) hT h30.1 h30.2.1 h30.2.2) (by decide) rfl rfl (Nat.le_of_ble_eq_true rfl) ⟨by show at_ ≤ 64; omega, by show 6 * at_ ≤ 384; omega⟩ (fun r31 u32 w33 => ?_)
          have h34 := w33.2
          refine v_topi ((rowV T n mo k 2)) w33.1 ?_
          rcases hg : lb T at_ mo (-1) n with _ | g
          · refine v_topi (-1) (by rw [rowV, if_pos hkr, ← hat]; exact plo_n hg) ?_
            refine v_istore (lv' := [(9, .int (-1)), (8, .int (nI (rowS T n mo (k + 1) - at_))), (7, .int (nI k)), (6, .int (nI 1)), (5, .int be), (4, .int (nI bv)), (3, .int sv), (2, .int (nI at_)), (1, .int (nI (rc T n mo 64))), (0, .ref (ad 0))]) F dL_places_58 (by decide) rfl ?_
            refine v_aload_n F dL_places_60 0 rfl rfl ?_
            refine v_iload F dL_places_61 rfl ?_
            refine v_iconst (v := nI 0) F dL_places_63 (by decide) ?_
            refine v_cVIF F cs_RL_48 dL_places_64 0 (ci := 7) rfl rfl (m_X7_row lau G ad T n mo ver S h u32.1 u32.2.1 u32.2.2 (co, len) Rd k 0 (by omega) (by omega) (by omega) hT h34.1 h34.2.1 h34.2.2) (by decide) rfl rfl (Nat.le_of_ble_eq_true rfl) ⟨by show at_ ≤ 64; omega, by show 6 * at_ ≤ 384; omega⟩ (fun r35 u36 w37 => ?_)
            have h38 := w37.2
            refine v_topi ((rowV T n mo k 0)) w37.1 ?_
            refine v_topi (nI at_) (by rw [rowV, if_pos hkr, ← hat]; rfl) ?_
            refine v_iload_n F dL_places_67 2 rfl rfl ?_
            refine v_icmp_ne F 87 dL_places_68 (by decide) (fun c39 => ?_) (fun c39 => ?_)
            · replace c39 := nEn (a := at_) (b := at_) (by omega) (by omega) c39
              omega
            · replace c39 := nE (a := at_) (b := at_) (by omega) (by omega) c39
              refine v_iload F dL_places_71 rfl ?_
              refine v_if_le F 87 dL_places_73 (by decide) (fun c40 => ?_) (fun c40 => ?_)
              · replace c40 := nK (a := (rowS T n mo (k + 1) - at_)) (b := 0) (by omega) (by decide) c40
                omega
              · replace c40 := nKn (a := (rowS T n mo (k + 1) - at_)) (b := 0) (by omega) (by decide) c40
                refine v_iload F dL_places_76 rfl ?_
                refine v_iload F dL_places_78 rfl ?_
                refine v_icmp_eq F 87 dL_places_80 (by decide) (fun c41 => ?_) (fun c41 => ?_)
                · exact absurd (by rw [← hat]; first | (rw [plo_s hg]; exact c41) | (rw [plo_n hg]; exact c41)) (hbe hkr)
                · refine v_iconst (v := nI 1) F dL_places_83 (by decide) ?_
                  refine v_goto F 88 dL_places_84 (by decide) ?_
                  refine v_istore (lv' := [(6, .int (nI 1)), (9, .int (-1)), (8, .int (nI (rowS T n mo (k + 1) - at_))), (7, .int (nI k)), (5, .int be), (4, .int (nI bv)), (3, .int sv), (2, .int (nI at_)), (1, .int (nI (rc T n mo 64))), (0, .ref (ad 0))]) F dL_places_88 (by decide) rfl ?_
                  refine v_iload_n F dL_places_90 2 rfl rfl ?_
                  refine v_istore (lv' := [(10, .int (nI at_)), (6, .int (nI 1)), (9, .int (-1)), (8, .int (nI (rowS T n mo (k + 1) - at_))), (7, .int (nI k)), (5, .int be), (4, .int (nI bv)), (3, .int sv), (2, .int (nI at_)), (1, .int (nI (rc T n mo 64))), (0, .ref (ad 0))]) F dL_places_91 (by decide) rfl ?_
                  have L93 : ∀ (k_ : Nat) (x : Nat) (sv2 : Int32) (bv2 : Nat) (P2 : PT) (Tr2 : TT) (Rg2 : RT), rowS T n mo (k + 1) - x < k_ → (at_ ≤ x) → (x ≤ rowS T n mo (k + 1)) → (sv2 = sm T n mo 0 x) → (bv2 = plc T n mo (-1) x) → (PCI T n mo ver P2) → (TCI T n mo ver Tr2) → (RCI T n ver Rg2) → V p lau e (RC 20 64 384) s m args below meth c 12 G A Q (wC ad G (T, n, mo, ver) (S, h) P2 Tr2 Rg2 (co, len) Rd) x (6 * x) 93 [(10, .int (nI x)), (6, .int (nI 1)), (9, .int (-1)), (8, .int (nI (rowS T n mo (k + 1) - at_))), (7, .int (nI k)), (5, .int be), (4, .int (nI bv2)), (3, .int sv2), (2, .int (nI at_)), (1, .int (nI (rc T n mo 64))), (0, .ref (ad 0))] [] := by
                    intro k_
                    induction k_ with
                    | zero => exact fun x sv2 bv2 P2 Tr2 Rg2 hk_ hx1 hx2 hs2 hb2 hP2 hC2 hR2 => absurd hk_ (Nat.not_lt_zero _)
                    | succ k_ ih93 =>
                      intro x sv2 bv2 P2 Tr2 Rg2 hk_93 hx1 hx2 hs2 hb2 hP2 hC2 hR2
                      refine v_iload F dL_places_93 rfl ?_
                      refine v_iload_n F dL_places_95 2 rfl rfl ?_
                      refine v_iload F dL_places_96 rfl ?_
                      refine v_iadd F dL_places_98 ?_
                      refine v_topi (nI (at_ + (rowS T n mo (k + 1) - at_))) (nI_add at_ (rowS T n mo (k + 1) - at_)) ?_
                      refine v_icmp_ge F 280 dL_places_99 (by decide) (fun c42 => ?_) (fun c42 => ?_)
                      · replace c42 := nG (a := x) (b := (at_ + (rowS T n mo (k + 1) - at_))) (by omega) (by omega) c42
                        refine v_iload_n F dL_places_280 2 rfl rfl ?_
                        refine v_iload F dL_places_281 rfl ?_
                        refine v_iadd F dL_places_283 ?_
                        refine v_topi (nI (at_ + (rowS T n mo (k + 1) - at_))) (nI_add at_ (rowS T n mo (k + 1) - at_)) ?_
                        refine v_istore_n (lv' := [(2, .int (nI (at_ + (rowS T n mo (k + 1) - at_)))), (10, .int (nI x)), (6, .int (nI 1)), (9, .int (-1)), (8, .int (nI (rowS T n mo (k + 1) - at_))), (7, .int (nI k)), (5, .int be), (4, .int (nI bv2)), (3, .int sv2), (1, .int (nI (rc T n mo 64))), (0, .ref (ad 0))]) F dL_places_284 2 rfl (by decide) rfl ?_
                        refine v_iload F dL_places_285 rfl ?_
                        refine v_istore (lv' := [(5, .int (-1)), (2, .int (nI (at_ + (rowS T n mo (k + 1) - at_)))), (10, .int (nI x)), (6, .int (nI 1)), (9, .int (-1)), (8, .int (nI (rowS T n mo (k + 1) - at_))), (7, .int (nI k)), (4, .int (nI bv2)), (3, .int sv2), (1, .int (nI (rc T n mo 64))), (0, .ref (ad 0))]) F dL_places_287 (by decide) rfl ?_
                        refine v_iinc (lv' := [(7, .int (nI (k + 1))), (5, .int (-1)), (2, .int (nI (at_ + (rowS T n mo (k + 1) - at_)))), (10, .int (nI x)), (6, .int (nI 1)), (9, .int (-1)), (8, .int (nI (rowS T n mo (k + 1) - at_))), (4, .int (nI bv2)), (3, .int sv2), (1, .int (nI (rc T n mo 64))), (0, .ref (ad 0))]) F (nI (k + 1)) dL_places_289 rfl (nI_add k 1) (by decide) rfl ?_
                        refine v_goto F 31 dL_places_292 (by decide) ?_
                        refine v_widen (k' := (at_ + (rowS T n mo (k + 1) - at_))) (n' := 6 * (at_ + (rowS T n mo (k + 1) - at_))) (by omega) (by omega) ?_
                        refine v_st (w' := wC ad G (T, n, mo, ver) (S, h) P2 Tr2 Rg2 (co, len) Rd) (pc' := 31) (st' := []) rfl rfl rfl [0, 4, 1, 7, 8, 2, 9, 10] (lv' := [(7, .int (nI (k + 1))), (6, .int (nI 1)), (5, .int (-1)), (4, .int (nI bv2)), (3, .int sv2), (2, .int (nI (at_ + (rowS T n mo (k + 1) - at_)))), (1, .int (nI (rc T n mo 64))), (0, .ref (ad 0))]) rfl ?_
                        exact ih31 (k + 1) (at_ + (rowS T n mo (k + 1) - at_)) sv2 bv2 (-1) P2 Tr2 Rg2 (by omega) (by omega) (by omega) (by rw [hs2, show x = at_ + (rowS T n mo (k + 1) - at_) by omega]) (by rw [hb2, show x = at_ + (rowS T n mo (k + 1) - at_) by omega]) (fun hk2 q9 => row_ne hkr hk2 (by rw [← hat, q9]; first | exact (plo_s hg).symm | exact (plo_n hg).symm)) (hP2) (hC2) (hR2)
                      · replace c42 := nGn (a := x) (b := (at_ + (rowS T n mo (k + 1) - at_))) (by omega) (by omega) c42
                        have hxr : x < rowS T n mo (k + 1) := by omega
                        have hpx : plo T n mo x = plo T n mo at_ := by rw [hat]; exact rowS_const hkr (by omega) hxr
                        have hlx := plo_lb hn hpx
                        refine v_iload F dL_places_102 rfl ?_
                        refine v_if_eq F 280 dL_places_104 (by decide) (fun h => absurd h (by decide)) (fun _ => ?_)
                        refine v_aload_n F dL_places_107 0 rfl rfl ?_
                        refine v_iload F dL_places_108 rfl ?_
                        refine v_aload_n F dL_places_110 0 rfl rfl ?_
                        refine v_iconst (v := nI 0) F dL_places_111 (by decide) ?_
                        refine v_cVIF F cs_RL_15 dL_places_112 0 (ci := 7) rfl rfl (m_X7_count lau G ad T n mo ver S h P2 Tr2 Rg2 (co, len) Rd 0 (by omega) (by omega) hT hP2 hC2 hR2) (by decide) rfl rfl (Nat.le_of_ble_eq_true rfl) ⟨by show x ≤ 64; omega, by show 6 * x ≤ 384; omega⟩ (fun r43 u44 w45 => ?_)
                        have h46 := w45.2
                        refine v_topi ((cntV T n mo h 0)) w45.1 ?_
                        refine v_topi (nI mo) (rfl) ?_
                        refine v_cVIF F cs_RL_51 dL_places_115 0 (ci := 7) rfl rfl (m_X7_lowest lau G ad T n mo ver S h u44.1 u44.2.1 u44.2.2 (co, len) Rd x mo (by omega) (by omega) (by omega) hT h46.1 h46.2.1 h46.2.2) (by decide) rfl rfl (Nat.le_of_ble_eq_true rfl) ⟨by show x ≤ 64; omega, by show 6 * x ≤ 384; omega⟩ (fun r47 u48 w49 => ?_)
                        have h50 := w49.2
                        refine v_topi ((oI (lb T x mo (-1) n))) w49.1 ?_
                        refine v_topi ((-1)) (by rw [hlx, hg]; rfl) ?_
                        refine v_iload F dL_places_118 rfl ?_
                        refine v_icmp_ne F 183 dL_places_120 (by decide) (fun h => absurd h (by decide)) (fun _ => ?_)
                        refine v_aload_n F dL_places_123 0 rfl rfl ?_
                        refine v_iload F dL_places_124 rfl ?_
                        refine v_iconst (v := nI 0) F dL_places_126 (by decide) ?_
                        refine v_cVIF F cs_RL_54 dL_places_127 0 (ci := 7) rfl rfl (m_X7_ranked lau G ad T n mo ver S h u48.1 u48.2.1 u48.2.2 (co, len) Rd x 0 (by omega) (by omega) (by omega) hT h50.1 h50.2.1 h50.2.2) (by decide) rfl rfl (Nat.le_of_ble_eq_true rfl) ⟨by show x ≤ 64; omega, by show 6 * x ≤ 384; omega⟩ (fun r51 u52 w53 => ?_)
                        have h54 := w53.2
                        refine v_topi ((rkV T n mo x 0)) w53.1 ?_
                        refine v_topi ((-1)) (by rw [rkV_0 hn, plo, hlx, hg]; rfl) ?_
                        refine v_iload F dL_places_130 rfl ?_
                        refine v_icmp_ne F 183 dL_places_132 (by decide) (fun h => absurd h (by decide)) (fun _ => ?_)
                        refine v_iload F dL_places_135 rfl ?_
                        refine v_aload_n F dL_places_137 0 rfl rfl ?_
                        refine v_iload F dL_places_138 rfl ?_
                        refine v_aload_n F dL_places_140 0 rfl rfl ?_
                        refine v_iconst (v := nI 0) F dL_places_141 (by decide) ?_
                        refine v_cVIF F cs_RL_15 dL_places_142 0 (ci := 7) rfl rfl (m_X7_count lau G ad T n mo ver S h u52.1 u52.2.1 u52.2.2 (co, len) Rd 0 (by omega) (by omega) hT h54.1 h54.2.1 h54.2.2) (by decide) rfl rfl (Nat.le_of_ble_eq_true rfl) ⟨by show x ≤ 64; omega, by show 6 * x ≤ 384; omega⟩ (fun r55 u56 w57 => ?_)
                        have h58 := w57.2
                        refine v_topi ((cntV T n mo h 0)) w57.1 ?_
                        refine v_topi (nI mo) (rfl) ?_
                        refine v_cSIF F cs_RL_57 dL_places_145 (m_L_lowest lau G ad T n mo ver S h u56.1 u56.2.1 u56.2.2 (co, len) Rd x mo (by omega) hT h58.1 h58.2.1 h58.2.2) (by decide) rfl rfl (Nat.le_of_ble_eq_true rfl) ⟨by show x ≤ 64; omega, by show 6 * x ≤ 384; omega⟩ (fun r59 u60 w61 => ?_)
                        have h62 := w61.2
                        refine v_topi ((oI (lb T x mo (-1) n))) w61.1 ?_
                        refine v_topi ((-1)) (by rw [hlx, hg]; rfl) ?_
                        refine v_icmp_ne F 183 dL_places_148 (by decide) (fun h => absurd h (by decide)) (fun _ => ?_)
                        refine v_aload_n F dL_places_151 0 rfl rfl ?_
                        refine v_iload F dL_places_152 rfl ?_
                        refine v_cH F hSF hSH hNC ch_value dL_places_154 [0, 1, 2, 3, 4, 5, 6, 7, 8, 9, 10, 11, 12, 13, 14, 15, 16, 17] [] (wc := wC ad G (T, n, mo, ver) (S, h) u60.1 u60.2.1 u60.2.2 (co, len) Rd) (wr := []) rfl rfl rfl rfl rfl (by decide) (h_value lau G ad T n mo ver S h u60.1 u60.2.1 u60.2.2 co len Rd x (by omega) (by omega) hT h62.1 h62.2.1 h62.2.2 hst) (by decide) rfl rfl (Nat.le_of_ble_eq_true rfl) ⟨by show x + 1 ≤ 64; omega, by show 6 * x + 6 ≤ 384; omega⟩ (fun r63 u64 w65 => ?_)
                        refine v_w (w' := wC ad G (T, n, mo, ver) (S, h) u64.1 u64.2.1 u64.2.2 (co, len) Rd) rfl ?_
                        have h66 := w65.2
                        refine v_topi ((vaV T n mo x)) w65.1 ?_
                        refine v_topi ((-20000)) (by rw [vaV, hlx, hg]) ?_
                        refine v_iload F dL_places_157 rfl ?_
                        refine v_if_ge F 168 dL_places_159 (by decide) (fun h => absurd h (by decide)) (fun _ => ?_)
                        refine v_sipush (v := (-20000)) F dL_places_162 (by decide) ?_
                        refine v_goto F 176 dL_places_165 (by decide) ?_
                        refine v_icmp_ne F 183 dL_places_176 (by decide) (fun h => absurd h (by decide)) (fun _ => ?_)
                        refine v_iconst (v := nI 1) F dL_places_179 (by decide) ?_
                        refine v_goto F 184 dL_places_180 (by decide) ?_
                        refine v_istore (lv' := [(6, .int (nI 1)), (10, .int (nI x)), (9, .int (-1)), (8, .int (nI (rowS T n mo (k + 1) - at_))), (7, .int (nI k)), (5, .int be), (4, .int (nI bv2)), (3, .int sv2), (2, .int (nI at_)), (1, .int (nI (rc T n mo 64))), (0, .ref (ad 0))]) F dL_places_184 (by decide) rfl ?_
                        refine v_aload_n F dL_places_186 0 rfl rfl ?_
                        refine v_iload F dL_places_187 rfl ?_
                        refine v_iconst (v := nI 1) F dL_places_189 (by decide) ?_
                        refine v_cVIF F cs_RL_54 dL_places_190 0 (ci := 7) rfl rfl (m_X7_ranked lau G ad T n mo ver S h u64.1 u64.2.1 u64.2.2 (co, len) Rd x 1 (by omega) (by omega) (by omega) hT h66.1 h66.2.1 h66.2.2) (by decide) rfl rfl (Nat.le_of_ble_eq_true rfl) ⟨by show x + 1 ≤ 64; omega, by show 6 * x + 6 ≤ 384; omega⟩ (fun r67 u68 w69 => ?_)
                        have h70 := w69.2
                        refine v_topi ((rkV T n mo x 1)) w69.1 ?_
                        refine v_topi (-1) (rkV_1n hn (hlx.trans hg)) ?_
                        refine v_istore (lv' := [(11, .int (-1)), (6, .int (nI 1)), (10, .int (nI x)), (9, .int (-1)), (8, .int (nI (rowS T n mo (k + 1) - at_))), (7, .int (nI k)), (5, .int be), (4, .int (nI bv2)), (3, .int sv2), (2, .int (nI at_)), (1, .int (nI (rc T n mo 64))), (0, .ref (ad 0))]) F dL_places_193 (by decide) rfl ?_
                        refine v_iload F dL_places_195 rfl ?_
                        refine v_if_eq F 236 dL_places_197 (by decide) (fun h => absurd h (by decide)) (fun _ => ?_)
                        refine v_iload F dL_places_200 rfl ?_
                        refine v_iconst (v := (-1)) F dL_places_202 (by decide) ?_
                        refine v_icmp_eq F 232 dL_places_203 (by decide) (fun _ => ?_) (fun h => absurd h (by decide))
                        refine v_iconst (v := nI 1) F dL_places_232 (by decide) ?_
                        refine v_goto F 237 dL_places_233 (by decide) ?_
                        refine v_istore (lv' := [(6, .int (nI 1)), (11, .int (-1)), (10, .int (nI x)), (9, .int (-1)), (8, .int (nI (rowS T n mo (k + 1) - at_))), (7, .int (nI k)), (5, .int be), (4, .int (nI bv2)), (3, .int sv2), (2, .int (nI at_)), (1, .int (nI (rc T n mo 64))), (0, .ref (ad 0))]) F dL_places_237 (by decide) rfl ?_
                        refine v_iload_n F dL_places_239 3 rfl rfl ?_
                        refine v_iload F dL_places_240 rfl ?_
                        refine v_if_ge F 249 dL_places_242 (by decide) (fun h => absurd h (by decide)) (fun _ => ?_)
                        refine v_iconst (v := nI 0) F dL_places_245 (by decide) ?_
                        refine v_goto F 257 dL_places_246 (by decide) ?_
                        refine v_iadd F dL_places_257 ?_
                        refine v_istore_n (lv' := [(3, .int (sv2 + nI 0)), (6, .int (nI 1)), (11, .int (-1)), (10, .int (nI x)), (9, .int (-1)), (8, .int (nI (rowS T n mo (k + 1) - at_))), (7, .int (nI k)), (5, .int be), (4, .int (nI bv2)), (2, .int (nI at_)), (1, .int (nI (rc T n mo 64))), (0, .ref (ad 0))]) F dL_places_258 3 rfl (by decide) rfl ?_
                        refine v_iload F dL_places_259 rfl ?_
                        refine v_iload F dL_places_261 rfl ?_
                        refine v_if_ge F 270 dL_places_263 (by decide) (fun h => absurd h (by decide)) (fun _ => ?_)
                        refine v_iconst (v := nI 1) F dL_places_266 (by decide) ?_
                        refine v_goto F 271 dL_places_267 (by decide) ?_
                        refine v_iadd F dL_places_271 ?_
                        refine v_topi (nI (bv2 + 1)) (nI_add bv2 1) ?_
                        refine v_istore (lv' := [(4, .int (nI (bv2 + 1))), (3, .int (sv2 + nI 0)), (6, .int (nI 1)), (11, .int (-1)), (10, .int (nI x)), (9, .int (-1)), (8, .int (nI (rowS T n mo (k + 1) - at_))), (7, .int (nI k)), (5, .int be), (2, .int (nI at_)), (1, .int (nI (rc T n mo 64))), (0, .ref (ad 0))]) F dL_places_272 (by decide) rfl ?_
                        refine v_iinc (lv' := [(10, .int (nI (x + 1))), (4, .int (nI (bv2 + 1))), (3, .int (sv2 + nI 0)), (6, .int (nI 1)), (11, .int (-1)), (9, .int (-1)), (8, .int (nI (rowS T n mo (k + 1) - at_))), (7, .int (nI k)), (5, .int be), (2, .int (nI at_)), (1, .int (nI (rc T n mo 64))), (0, .ref (ad 0))]) F (nI (x + 1)) dL_places_274 rfl (nI_add x 1) (by decide) rfl ?_
                        refine v_goto F 93 dL_places_277 (by decide) ?_
                        refine v_widen (k' := (x + 1)) (n' := 6 * (x + 1)) (by omega) (by omega) ?_
                        refine v_st (w' := wC ad G (T, n, mo, ver) (S, h) u68.1 u68.2.1 u68.2.2 (co, len) Rd) (pc' := 93) (st' := []) rfl rfl rfl [0, 3, 5, 6, 7, 8, 1, 2, 9, 10, 11] (lv' := [(10, .int (nI (x + 1))), (6, .int (nI 1)), (9, .int (-1)), (8, .int (nI (rowS T n mo (k + 1) - at_))), (7, .int (nI k)), (5, .int be), (4, .int (nI (bv2 + 1))), (3, .int (sv2 + nI 0)), (2, .int (nI at_)), (1, .int (nI (rc T n mo 64))), (0, .ref (ad 0))]) rfl ?_
                        exact ih93 (x + 1) (sv2 + nI 0) (bv2 + 1) u68.1 u68.2.1 u68.2.2 (by omega) (by omega) (by omega) (by first | (rw [hs2, sm_s (a := 0) (k := x) (by rw [Nat.zero_add]; exact hlx.trans hg), Nat.zero_add]; done) | (rw [sm_n (a := 0) (by rw [Nat.zero_add]; exact hlx.trans hg), hs2, nI_0, Int32.add_zero]; done)) (by first | (rw [hb2, plc, if_neg (by rw [plo, hlx, hg]; exact nI_neO (by omega))]; done) | (rw [hb2, plc, if_pos (by rw [plo, hlx, hg]; rfl)]; done)) (h70.1) (h70.2.1) (h70.2.2)
                  refine v_st (w' := wC ad G (T, n, mo, ver) (S, h) u36.1 u36.2.1 u36.2.2 (co, len) Rd) (pc' := 93) (st' := []) rfl rfl rfl [0, 1, 2, 3, 4, 5, 6, 7, 8, 9, 10] (lv' := [(10, .int (nI at_)), (6, .int (nI 1)), (9, .int (-1)), (8, .int (nI (rowS T n mo (k + 1) - at_))), (7, .int (nI k)), (5, .int be), (4, .int (nI bv)), (3, .int sv), (2, .int (nI at_)), (1, .int (nI (rc T n mo 64))), (0, .ref (ad 0))]) rfl ?_
                  exact L93 _ at_ sv bv u36.1 u36.2.1 u36.2.2 (Nat.lt_succ_self _) (by omega) (by omega) (hsv) (hbv) (h38.1) (h38.2.1) (h38.2.2)
          · have hgl := lb_lt _ _ _ _ _ _ hg
            refine v_topi (nI g) (by rw [rowV, if_pos hkr, ← hat]; exact plo_s hg) ?_
            refine v_istore (lv' := [(9, .int (nI g)), (8, .int (nI (rowS T n mo (k + 1) - at_))), (7, .int (nI k)), (6, .int (nI 1)), (5, .int be), (4, .int (nI bv)), (3, .int sv), (2, .int (nI at_)), (1, .int (nI (rc T n mo 64))), (0, .ref (ad 0))]) F dL_places_58 (by decide) rfl ?_
            refine v_aload_n F dL_places_60 0 rfl rfl ?_
            refine v_iload F dL_places_61 rfl ?_
            refine v_iconst (v := nI 0) F dL_places_63 (by decide) ?_
            refine v_cVIF F cs_RL_48 dL_places_64 0 (ci := 7) rfl rfl (m_X7_row lau G ad T n mo ver S h u32.1 u32.2.1 u32.2.2 (co, len) Rd k 0 (by omega) (by omega) (by omega) hT h34.1 h34.2.1 h34.2.2) (by decide) rfl rfl (Nat.le_of_ble_eq_true rfl) ⟨by show at_ ≤ 64; omega, by show 6 * at_ ≤ 384; omega⟩ (fun r71 u72 w73 => ?_)
            have h74 := w73.2
            refine v_topi ((rowV T n mo k 0)) w73.1 ?_
            refine v_topi (nI at_) (by rw [rowV, if_pos hkr, ← hat]; rfl) ?_
            refine v_iload_n F dL_places_67 2 rfl rfl ?_
            refine v_icmp_ne F 87 dL_places_68 (by decide) (fun c75 => ?_) (fun c75 => ?_)
            · replace c75 := nEn (a := at_) (b := at_) (by omega) (by omega) c75
              omega
            · replace c75 := nE (a := at_) (b := at_) (by omega) (by omega) c75
              refine v_iload F dL_places_71 rfl ?_
              refine v_if_le F 87 dL_places_73 (by decide) (fun c76 => ?_) (fun c76 => ?_)
              · replace c76 := nK (a := (rowS T n mo (k + 1) - at_)) (b := 0) (by omega) (by decide) c76
                omega
              · replace c76 := nKn (a := (rowS T n mo (k + 1) - at_)) (b := 0) (by omega) (by decide) c76
                refine v_iload F dL_places_76 rfl ?_
                refine v_iload F dL_places_78 rfl ?_
                refine v_icmp_eq F 87 dL_places_80 (by decide) (fun c77 => ?_) (fun c77 => ?_)
                · exact absurd (by rw [← hat]; first | (rw [plo_s hg]; exact c77) | (rw [plo_n hg]; exact c77)) (hbe hkr)
                · refine v_iconst (v := nI 1) F dL_places_83 (by decide) ?_
                  refine v_goto F 88 dL_places_84 (by decide) ?_
                  refine v_istore (lv' := [(6, .int (nI 1)), (9, .int (nI g)), (8, .int (nI (rowS T n mo (k + 1) - at_))), (7, .int (nI k)), (5, .int be), (4, .int (nI bv)), (3, .int sv), (2, .int (nI at_)), (1, .int (nI (rc T n mo 64))), (0, .ref (ad 0))]) F dL_places_88 (by decide) rfl ?_
                  refine v_iload_n F dL_places_90 2 rfl rfl ?_
                  refine v_istore (lv' := [(10, .int (nI at_)), (6, .int (nI 1)), (9, .int (nI g)), (8, .int (nI (rowS T n mo (k + 1) - at_))), (7, .int (nI k)), (5, .int be), (4, .int (nI bv)), (3, .int sv), (2, .int (nI at_)), (1, .int (nI (rc T n mo 64))), (0, .ref (ad 0))]) F dL_places_91 (by decide) rfl ?_
                  have L93 : ∀ (k_ : Nat) (x : Nat) (sv2 : Int32) (bv2 : Nat) (P2 : PT) (Tr2 : TT) (Rg2 : RT), rowS T n mo (k + 1) - x < k_ → (at_ ≤ x) → (x ≤ rowS T n mo (k + 1)) → (sv2 = sm T n mo 0 x) → (bv2 = plc T n mo (-1) x) → (PCI T n mo ver P2) → (TCI T n mo ver Tr2) → (RCI T n ver Rg2) → V p lau e (RC 20 64 384) s m args below meth c 12 G A Q (wC ad G (T, n, mo, ver) (S, h) P2 Tr2 Rg2 (co, len) Rd) x (6 * x) 93 [(10, .int (nI x)), (6, .int (nI 1)), (9, .int (nI g)), (8, .int (nI (rowS T n mo (k + 1) - at_))), (7, .int (nI k)), (5, .int be), (4, .int (nI bv2)), (3, .int sv2), (2, .int (nI at_)), (1, .int (nI (rc T n mo 64))), (0, .ref (ad 0))] [] := by
                    intro k_
                    induction k_ with
                    | zero => exact fun x sv2 bv2 P2 Tr2 Rg2 hk_ hx1 hx2 hs2 hb2 hP2 hC2 hR2 => absurd hk_ (Nat.not_lt_zero _)
                    | succ k_ ih93 =>
                      intro x sv2 bv2 P2 Tr2 Rg2 hk_93 hx1 hx2 hs2 hb2 hP2 hC2 hR2
                      refine v_iload F dL_places_93 rfl ?_
                      refine v_iload_n F dL_places_95 2 rfl rfl ?_
                      refine v_iload F dL_places_96 rfl ?_
                      refine v_iadd F dL_places_98 ?_
                      refine v_topi (nI (at_ + (rowS T n mo (k + 1) - at_))) (nI_add at_ (rowS T n mo (k + 1) - at_)) ?_
                      refine v_icmp_ge F 280 dL_places_99 (by decide) (fun c78 => ?_) (fun c78 => ?_)
                      · replace c78 := nG (a := x) (b := (at_ + (rowS T n mo (k + 1) - at_))) (by omega) (by omega) c78
                        refine v_iload_n F dL_places_280 2 rfl rfl ?_
                        refine v_iload F dL_places_281 rfl ?_
                        refine v_iadd F dL_places_283 ?_
                        refine v_topi (nI (at_ + (rowS T n mo (k + 1) - at_))) (nI_add at_ (rowS T n mo (k + 1) - at_)) ?_
                        refine v_istore_n (lv' := [(2, .int (nI (at_ + (rowS T n mo (k + 1) - at_)))), (10, .int (nI x)), (6, .int (nI 1)), (9, .int (nI g)), (8, .int (nI (rowS T n mo (k + 1) - at_))), (7, .int (nI k)), (5, .int be), (4, .int (nI bv2)), (3, .int sv2), (1, .int (nI (rc T n mo 64))), (0, .ref (ad 0))]) F dL_places_284 2 rfl (by decide) rfl ?_
                        refine v_iload F dL_places_285 rfl ?_
                        refine v_istore (lv' := [(5, .int (nI g)), (2, .int (nI (at_ + (rowS T n mo (k + 1) - at_)))), (10, .int (nI x)), (6, .int (nI 1)), (9, .int (nI g)), (8, .int (nI (rowS T n mo (k + 1) - at_))), (7, .int (nI k)), (4, .int (nI bv2)), (3, .int sv2), (1, .int (nI (rc T n mo 64))), (0, .ref (ad 0))]) F dL_places_287 (by decide) rfl ?_
                        refine v_iinc (lv' := [(7, .int (nI (k + 1))), (5, .int (nI g)), (2, .int (nI (at_ + (rowS T n mo (k + 1) - at_)))), (10, .int (nI x)), (6, .int (nI 1)), (9, .int (nI g)), (8, .int (nI (rowS T n mo (k + 1) - at_))), (4, .int (nI bv2)), (3, .int sv2), (1, .int (nI (rc T n mo 64))), (0, .ref (ad 0))]) F (nI (k + 1)) dL_places_289 rfl (nI_add k 1) (by decide) rfl ?_
                        refine v_goto F 31 dL_places_292 (by decide) ?_
                        refine v_widen (k' := (at_ + (rowS T n mo (k + 1) - at_))) (n' := 6 * (at_ + (rowS T n mo (k + 1) - at_))) (by omega) (by omega) ?_
                        refine v_st (w' := wC ad G (T, n, mo, ver) (S, h) P2 Tr2 Rg2 (co, len) Rd) (pc' := 31) (st' := []) rfl rfl rfl [0, 4, 1, 7, 8, 2, 9, 10] (lv' := [(7, .int (nI (k + 1))), (6, .int (nI 1)), (5, .int (nI g)), (4, .int (nI bv2)), (3, .int sv2), (2, .int (nI (at_ + (rowS T n mo (k + 1) - at_)))), (1, .int (nI (rc T n mo 64))), (0, .ref (ad 0))]) rfl ?_
                        exact ih31 (k + 1) (at_ + (rowS T n mo (k + 1) - at_)) sv2 bv2 (nI g) P2 Tr2 Rg2 (by omega) (by omega) (by omega) (by rw [hs2, show x = at_ + (rowS T n mo (k + 1) - at_) by omega]) (by rw [hb2, show x = at_ + (rowS T n mo (k + 1) - at_) by omega]) (fun hk2 q9 => row_ne hkr hk2 (by rw [← hat, q9]; first | exact (plo_s hg).symm | exact (plo_n hg).symm)) (hP2) (hC2) (hR2)
                      · replace c78 := nGn (a := x) (b := (at_ + (rowS T n mo (k + 1) - at_))) (by omega) (by omega) c78
                        have hxr : x < rowS T n mo (k + 1) := by omega
                        have hpx : plo T n mo x = plo T n mo at_ := by rw [hat]; exact rowS_const hkr (by omega) hxr
                        have hlx := plo_lb hn hpx
                        refine v_iload F dL_places_102 rfl ?_
                        refine v_if_eq F 280 dL_places_104 (by decide) (fun h => absurd h (by decide)) (fun _ => ?_)
                        refine v_aload_n F dL_places_107 0 rfl rfl ?_
                        refine v_iload F dL_places_108 rfl ?_
                        refine v_aload_n F dL_places_110 0 rfl rfl ?_
                        refine v_iconst (v := nI 0) F dL_places_111 (by decide) ?_
                        refine v_cVIF F cs_RL_15 dL_places_112 0 (ci := 7) rfl rfl (m_X7_count lau G ad T n mo ver S h P2 Tr2 Rg2 (co, len) Rd 0 (by omega) (by omega) hT hP2 hC2 hR2) (by decide) rfl rfl (Nat.le_of_ble_eq_true rfl) ⟨by show x ≤ 64; omega, by show 6 * x ≤ 384; omega⟩ (fun r79 u80 w81 => ?_)
                        have h82 := w81.2
                        refine v_topi ((cntV T n mo h 0)) w81.1 ?_
                        refine v_topi (nI mo) (rfl) ?_
                        refine v_cVIF F cs_RL_51 dL_places_115 0 (ci := 7) rfl rfl (m_X7_lowest lau G ad T n mo ver S h u80.1 u80.2.1 u80.2.2 (co, len) Rd x mo (by omega) (by omega) (by omega) hT h82.1 h82.2.1 h82.2.2) (by decide) rfl rfl (Nat.le_of_ble_eq_true rfl) ⟨by show x ≤ 64; omega, by show 6 * x ≤ 384; omega⟩ (fun r83 u84 w85 => ?_)
                        have h86 := w85.2
                        refine v_topi ((oI (lb T x mo (-1) n))) w85.1 ?_
                        refine v_topi (nI g) (by rw [hlx, hg]; rfl) ?_
                        refine v_iload F dL_places_118 rfl ?_
                        refine v_icmp_ne F 183 dL_places_120 (by decide) (fun c87 => ?_) (fun c87 => ?_)
                        · replace c87 := nEn (a := g) (b := g) (by omega) (by omega) c87
                          omega
                        · replace c87 := nE (a := g) (b := g) (by omega) (by omega) c87
                          refine v_aload_n F dL_places_123 0 rfl rfl ?_
                          refine v_iload F dL_places_124 rfl ?_
                          refine v_iconst (v := nI 0) F dL_places_126 (by decide) ?_
                          refine v_cVIF F cs_RL_54 dL_places_127 0 (ci := 7) rfl rfl (m_X7_ranked lau G ad T n mo ver S h u84.1 u84.2.1 u84.2.2 (co, len) Rd x 0 (by omega) (by omega) (by omega) hT h86.1 h86.2.1 h86.2.2) (by decide) rfl rfl (Nat.le_of_ble_eq_true rfl) ⟨by show x ≤ 64; omega, by show 6 * x ≤ 384; omega⟩ (fun r88 u89 w90 => ?_)
                          have h91 := w90.2
                          refine v_topi ((rkV T n mo x 0)) w90.1 ?_
                          refine v_topi (nI g) (by rw [rkV_0 hn, plo, hlx, hg]; rfl) ?_
                          refine v_iload F dL_places_130 rfl ?_
                          refine v_icmp_ne F 183 dL_places_132 (by decide) (fun c92 => ?_) (fun c92 => ?_)
                          · replace c92 := nEn (a := g) (b := g) (by omega) (by omega) c92
                            omega
                          · replace c92 := nE (a := g) (b := g) (by omega) (by omega) c92
                            refine v_iload F dL_places_135 rfl ?_
                            refine v_aload_n F dL_places_137 0 rfl rfl ?_
                            refine v_iload F dL_places_138 rfl ?_
                            refine v_aload_n F dL_places_140 0 rfl rfl ?_
                            refine v_iconst (v := nI 0) F dL_places_141 (by decide) ?_
                            refine v_cVIF F cs_RL_15 dL_places_142 0 (ci := 7) rfl rfl (m_X7_count lau G ad T n mo ver S h u89.1 u89.2.1 u89.2.2 (co, len) Rd 0 (by omega) (by omega) hT h91.1 h91.2.1 h91.2.2) (by decide) rfl rfl (Nat.le_of_ble_eq_true rfl) ⟨by show x ≤ 64; omega, by show 6 * x ≤ 384; omega⟩ (fun r93 u94 w95 => ?_)
                            have h96 := w95.2
                            refine v_topi ((cntV T n mo h 0)) w95.1 ?_
                            refine v_topi (nI mo) (rfl) ?_
                            refine v_cSIF F cs_RL_57 dL_places_145 (m_L_lowest lau G ad T n mo ver S h u94.1 u94.2.1 u94.2.2 (co, len) Rd x mo (by omega) hT h96.1 h96.2.1 h96.2.2) (by decide) rfl rfl (Nat.le_of_ble_eq_true rfl) ⟨by show x ≤ 64; omega, by show 6 * x ≤ 384; omega⟩ (fun r97 u98 w99 => ?_)
                            have h100 := w99.2
                            refine v_topi ((oI (lb T x mo (-1) n))) w99.1 ?_
                            refine v_topi (nI g) (by rw [hlx, hg]; rfl) ?_
                            refine v_icmp_ne F 183 dL_places_148 (by decide) (fun c101 => ?_) (fun c101 => ?_)
                            · replace c101 := nEn (a := g) (b := g) (by omega) (by omega) c101
                              omega
                            · replace c101 := nE (a := g) (b := g) (by omega) (by omega) c101
                              refine v_aload_n F dL_places_151 0 rfl rfl ?_
                              refine v_iload F dL_places_152 rfl ?_
                              refine v_cH F hSF hSH hNC ch_value dL_places_154 [0, 1, 2, 3, 4, 5, 6, 7, 8, 9, 10, 11, 12, 13, 14, 15, 16, 17] [] (wc := wC ad G (T, n, mo, ver) (S, h) u98.1 u98.2.1 u98.2.2 (co, len) Rd) (wr := []) rfl rfl rfl rfl rfl (by decide) (h_value lau G ad T n mo ver S h u98.1 u98.2.1 u98.2.2 co len Rd x (by omega) (by omega) hT h100.1 h100.2.1 h100.2.2 hst) (by decide) rfl rfl (Nat.le_of_ble_eq_true rfl) ⟨by show x + 1 ≤ 64; omega, by show 6 * x + 6 ≤ 384; omega⟩ (fun r102 u103 w104 => ?_)
                              refine v_w (w' := wC ad G (T, n, mo, ver) (S, h) u103.1 u103.2.1 u103.2.2 (co, len) Rd) rfl ?_
                              have h105 := w104.2
                              refine v_topi ((vaV T n mo x)) w104.1 ?_
                              refine v_topi ((pVal T g x)) (by rw [vaV, hlx, hg]) ?_
                              refine v_iload F dL_places_157 rfl ?_
                              refine v_if_ge F 168 dL_places_159 (by decide) (fun c106 => ?_) (fun c106 => ?_)
                              · replace c106 := nG (a := g) (b := 0) (by omega) (by decide) c106
                                refine v_aload_n F dL_places_168 0 rfl rfl ?_
                                refine v_iload F dL_places_169 rfl ?_
                                refine v_iload F dL_places_171 rfl ?_
                                refine v_cSIF F cs_RL_25 dL_places_173 (m_L_valueOf lau G ad T n mo ver S h u103.1 u103.2.1 u103.2.2 (co, len) Rd g x (by omega) (by omega) hT h105.1 h105.2.1 h105.2.2) (by decide) rfl rfl (Nat.le_of_ble_eq_true rfl) ⟨by show x + 1 ≤ 64; omega, by show 6 * x + 6 ≤ 384; omega⟩ (fun r107 u108 w109 => ?_)
                                have h110 := w109.2
                                refine v_topi ((pVal T g x)) w109.1 ?_
                                refine v_icmp_ne F 183 dL_places_176 (by decide) (fun c111 => ?_) (fun c111 => ?_)
                                · exact absurd rfl c111
                                · refine v_iconst (v := nI 1) F dL_places_179 (by decide) ?_
                                  refine v_goto F 184 dL_places_180 (by decide) ?_
                                  refine v_istore (lv' := [(6, .int (nI 1)), (10, .int (nI x)), (9, .int (nI g)), (8, .int (nI (rowS T n mo (k + 1) - at_))), (7, .int (nI k)), (5, .int be), (4, .int (nI bv2)), (3, .int sv2), (2, .int (nI at_)), (1, .int (nI (rc T n mo 64))), (0, .ref (ad 0))]) F dL_places_184 (by decide) rfl ?_
                                  refine v_aload_n F dL_places_186 0 rfl rfl ?_
                                  refine v_iload F dL_places_187 rfl ?_
                                  refine v_iconst (v := nI 1) F dL_places_189 (by decide) ?_
                                  refine v_cVIF F cs_RL_54 dL_places_190 0 (ci := 7) rfl rfl (m_X7_ranked lau G ad T n mo ver S h u108.1 u108.2.1 u108.2.2 (co, len) Rd x 1 (by omega) (by omega) (by omega) hT h110.1 h110.2.1 h110.2.2) (by decide) rfl rfl (Nat.le_of_ble_eq_true rfl) ⟨by show x + 1 ≤ 64; omega, by show 6 * x + 6 ≤ 384; omega⟩ (fun r112 u113 w114 => ?_)
                                  have h115 := w114.2
                                  refine v_topi ((rkV T n mo x 1)) w114.1 ?_
                                  rcases rkV_1 (T := T) (x := x) (mo := mo) hn with hq | ⟨q_, g', hq1, hq2, hq3, hq4, hq5, hq6⟩
                                  · refine v_topi (-1) hq ?_
                                    refine v_istore (lv' := [(11, .int (-1)), (6, .int (nI 1)), (10, .int (nI x)), (9, .int (nI g)), (8, .int (nI (rowS T n mo (k + 1) - at_))), (7, .int (nI k)), (5, .int be), (4, .int (nI bv2)), (3, .int sv2), (2, .int (nI at_)), (1, .int (nI (rc T n mo 64))), (0, .ref (ad 0))]) F dL_places_193 (by decide) rfl ?_
                                    refine v_iload F dL_places_195 rfl ?_
                                    refine v_if_eq F 236 dL_places_197 (by decide) (fun h => absurd h (by decide)) (fun _ => ?_)
                                    refine v_iload F dL_places_200 rfl ?_
                                    refine v_iconst (v := (-1)) F dL_places_202 (by decide) ?_
                                    refine v_icmp_eq F 232 dL_places_203 (by decide) (fun _ => ?_) (fun h => absurd h (by decide))
                                    refine v_iconst (v := nI 1) F dL_places_232 (by decide) ?_
                                    refine v_goto F 237 dL_places_233 (by decide) ?_
                                    refine v_istore (lv' := [(6, .int (nI 1)), (11, .int (-1)), (10, .int (nI x)), (9, .int (nI g)), (8, .int (nI (rowS T n mo (k + 1) - at_))), (7, .int (nI k)), (5, .int be), (4, .int (nI bv2)), (3, .int sv2), (2, .int (nI at_)), (1, .int (nI (rc T n mo 64))), (0, .ref (ad 0))]) F dL_places_237 (by decide) rfl ?_
                                    refine v_iload_n F dL_places_239 3 rfl rfl ?_
                                    refine v_iload F dL_places_240 rfl ?_
                                    refine v_if_ge F 249 dL_places_242 (by decide) (fun c116 => ?_) (fun c116 => ?_)
                                    · replace c116 := nG (a := g) (b := 0) (by omega) (by decide) c116
                                      refine v_aload_n F dL_places_249 0 rfl rfl ?_
                                      refine v_iload F dL_places_250 rfl ?_
                                      refine v_iload F dL_places_252 rfl ?_
                                      refine v_cSIF F cs_RL_25 dL_places_254 (m_L_valueOf lau G ad T n mo ver S h u113.1 u113.2.1 u113.2.2 (co, len) Rd g x (by omega) (by omega) hT h115.1 h115.2.1 h115.2.2) (by decide) rfl rfl (Nat.le_of_ble_eq_true rfl) ⟨by show x + 1 ≤ 64; omega, by show 6 * x + 6 ≤ 384; omega⟩ (fun r117 u118 w119 => ?_)
                                      have h120 := w119.2
                                      refine v_topi ((pVal T g x)) w119.1 ?_
                                      refine v_iadd F dL_places_257 ?_
                                      refine v_istore_n (lv' := [(3, .int (sv2 + (pVal T g x))), (6, .int (nI 1)), (11, .int (-1)), (10, .int (nI x)), (9, .int (nI g)), (8, .int (nI (rowS T n mo (k + 1) - at_))), (7, .int (nI k)), (5, .int be), (4, .int (nI bv2)), (2, .int (nI at_)), (1, .int (nI (rc T n mo 64))), (0, .ref (ad 0))]) F dL_places_258 3 rfl (by decide) rfl ?_
                                      refine v_iload F dL_places_259 rfl ?_
                                      refine v_iload F dL_places_261 rfl ?_
                                      refine v_if_ge F 270 dL_places_263 (by decide) (fun c121 => ?_) (fun c121 => ?_)
                                      · replace c121 := nG (a := g) (b := 0) (by omega) (by decide) c121
                                        refine v_iconst (v := nI 0) F dL_places_270 (by decide) ?_
                                        refine v_iadd F dL_places_271 ?_
                                        refine v_topi (nI (bv2 + 0)) (nI_add bv2 0) ?_
                                        refine v_istore (lv' := [(4, .int (nI (bv2 + 0))), (3, .int (sv2 + (pVal T g x))), (6, .int (nI 1)), (11, .int (-1)), (10, .int (nI x)), (9, .int (nI g)), (8, .int (nI (rowS T n mo (k + 1) - at_))), (7, .int (nI k)), (5, .int be), (2, .int (nI at_)), (1, .int (nI (rc T n mo 64))), (0, .ref (ad 0))]) F dL_places_272 (by decide) rfl ?_
                                        refine v_iinc (lv' := [(10, .int (nI (x + 1))), (4, .int (nI (bv2 + 0))), (3, .int (sv2 + (pVal T g x))), (6, .int (nI 1)), (11, .int (-1)), (9, .int (nI g)), (8, .int (nI (rowS T n mo (k + 1) - at_))), (7, .int (nI k)), (5, .int be), (2, .int (nI at_)), (1, .int (nI (rc T n mo 64))), (0, .ref (ad 0))]) F (nI (x + 1)) dL_places_274 rfl (nI_add x 1) (by decide) rfl ?_
                                        refine v_goto F 93 dL_places_277 (by decide) ?_
                                        refine v_widen (k' := (x + 1)) (n' := 6 * (x + 1)) (by omega) (by omega) ?_
                                        refine v_st (w' := wC ad G (T, n, mo, ver) (S, h) u118.1 u118.2.1 u118.2.2 (co, len) Rd) (pc' := 93) (st' := []) rfl rfl rfl [0, 3, 5, 6, 7, 8, 1, 2, 9, 10, 11] (lv' := [(10, .int (nI (x + 1))), (6, .int (nI 1)), (9, .int (nI g)), (8, .int (nI (rowS T n mo (k + 1) - at_))), (7, .int (nI k)), (5, .int be), (4, .int (nI (bv2 + 0))), (3, .int (sv2 + (pVal T g x))), (2, .int (nI at_)), (1, .int (nI (rc T n mo 64))), (0, .ref (ad 0))]) rfl ?_
                                        exact ih93 (x + 1) (sv2 + (pVal T g x)) (bv2 + 0) u118.1 u118.2.1 u118.2.2 (by omega) (by omega) (by omega) (by first | (rw [hs2, sm_s (a := 0) (k := x) (by rw [Nat.zero_add]; exact hlx.trans hg), Nat.zero_add]; done) | (rw [sm_n (a := 0) (by rw [Nat.zero_add]; exact hlx.trans hg), hs2, nI_0, Int32.add_zero]; done)) (by first | (rw [hb2, plc, if_neg (by rw [plo, hlx, hg]; exact nI_neO (by omega))]; done) | (rw [hb2, plc, if_pos (by rw [plo, hlx, hg]; rfl)]; done)) (h120.1) (h120.2.1) (h120.2.2)
                                      · replace c121 := nGn (a := g) (b := 0) (by omega) (by decide) c121
                                        exact absurd c121 (Nat.not_lt_zero _)
                                    · replace c116 := nGn (a := g) (b := 0) (by omega) (by decide) c116
                                      exact absurd c116 (Nat.not_lt_zero _)
                                  · have hgg : g' = g := Option.some.inj (hq3.symm.trans (hlx.trans hg))
                                    rw [hgg] at hq5 hq6
                                    refine v_topi (nI q_) hq2 ?_
                                    refine v_istore (lv' := [(11, .int (nI q_)), (6, .int (nI 1)), (10, .int (nI x)), (9, .int (nI g)), (8, .int (nI (rowS T n mo (k + 1) - at_))), (7, .int (nI k)), (5, .int be), (4, .int (nI bv2)), (3, .int sv2), (2, .int (nI at_)), (1, .int (nI (rc T n mo 64))), (0, .ref (ad 0))]) F dL_places_193 (by decide) rfl ?_
                                    refine v_iload F dL_places_195 rfl ?_
                                    refine v_if_eq F 236 dL_places_197 (by decide) (fun h => absurd h (by decide)) (fun _ => ?_)
                                    refine v_iload F dL_places_200 rfl ?_
                                    refine v_iconst (v := (-1)) F dL_places_202 (by decide) ?_
                                    refine v_icmp_eq F 232 dL_places_203 (by decide) (fun c122 => ?_) (fun c122 => ?_)
                                    · exact absurd c122 (nI_ne1 (by omega))
                                    · refine v_iload F dL_places_206 rfl ?_
                                      refine v_iload F dL_places_208 rfl ?_
                                      refine v_icmp_eq F 236 dL_places_210 (by decide) (fun c123 => ?_) (fun c123 => ?_)
                                      · replace c123 := nE (a := q_) (b := g) (by omega) (by omega) c123
                                        omega
                                      · replace c123 := nEn (a := q_) (b := g) (by omega) (by omega) c123
                                        refine v_aload_n F dL_places_213 0 rfl rfl ?_
                                        refine v_iload F dL_places_214 rfl ?_
                                        refine v_iload F dL_places_216 rfl ?_
                                        refine v_cSIF F cs_RL_25 dL_places_218 (m_L_valueOf lau G ad T n mo ver S h u113.1 u113.2.1 u113.2.2 (co, len) Rd q_ x (by omega) (by omega) hT h115.1 h115.2.1 h115.2.2) (by decide) rfl rfl (Nat.le_of_ble_eq_true rfl) ⟨by show x + 1 ≤ 64; omega, by show 6 * x + 6 ≤ 384; omega⟩ (fun r124 u125 w126 => ?_)
                                        have h127 := w126.2
                                        refine v_topi ((pVal T q_ x)) w126.1 ?_
                                        refine v_aload_n F dL_places_221 0 rfl rfl ?_
                                        refine v_iload F dL_places_222 rfl ?_
                                        refine v_iload F dL_places_224 rfl ?_
                                        refine v_cSIF F cs_RL_25 dL_places_226 (m_L_valueOf lau G ad T n mo ver S h u125.1 u125.2.1 u125.2.2 (co, len) Rd g x (by omega) (by omega) hT h127.1 h127.2.1 h127.2.2) (by decide) rfl rfl (Nat.le_of_ble_eq_true rfl) ⟨by show x + 1 ≤ 64; omega, by show 6 * x + 6 ≤ 384; omega⟩ (fun r128 u129 w130 => ?_)
                                        have h131 := w130.2
                                        refine v_topi ((pVal T g x)) w130.1 ?_
                                        refine v_icmp_lt F 236 dL_places_229 (by decide) (fun c132 => ?_) (fun c132 => ?_)
                                        · exact absurd c132 (Int32.not_lt.mpr hq6)
                                        · refine v_iconst (v := nI 1) F dL_places_232 (by decide) ?_
                                          refine v_goto F 237 dL_places_233 (by decide) ?_
                                          refine v_istore (lv' := [(6, .int (nI 1)), (11, .int (nI q_)), (10, .int (nI x)), (9, .int (nI g)), (8, .int (nI (rowS T n mo (k + 1) - at_))), (7, .int (nI k)), (5, .int be), (4, .int (nI bv2)), (3, .int sv2), (2, .int (nI at_)), (1, .int (nI (rc T n mo 64))), (0, .ref (ad 0))]) F dL_places_237 (by decide) rfl ?_
                                          refine v_iload_n F dL_places_239 3 rfl rfl ?_
                                          refine v_iload F dL_places_240 rfl ?_
                                          refine v_if_ge F 249 dL_places_242 (by decide) (fun c133 => ?_) (fun c133 => ?_)
                                          · replace c133 := nG (a := g) (b := 0) (by omega) (by decide) c133
                                            refine v_aload_n F dL_places_249 0 rfl rfl ?_
                                            refine v_iload F dL_places_250 rfl ?_
                                            refine v_iload F dL_places_252 rfl ?_
                                            refine v_cSIF F cs_RL_25 dL_places_254 (m_L_valueOf lau G ad T n mo ver S h u129.1 u129.2.1 u129.2.2 (co, len) Rd g x (by omega) (by omega) hT h131.1 h131.2.1 h131.2.2) (by decide) rfl rfl (Nat.le_of_ble_eq_true rfl) ⟨by show x + 1 ≤ 64; omega, by show 6 * x + 6 ≤ 384; omega⟩ (fun r134 u135 w136 => ?_)
                                            have h137 := w136.2
                                            refine v_topi ((pVal T g x)) w136.1 ?_
                                            refine v_iadd F dL_places_257 ?_
                                            refine v_istore_n (lv' := [(3, .int (sv2 + (pVal T g x))), (6, .int (nI 1)), (11, .int (nI q_)), (10, .int (nI x)), (9, .int (nI g)), (8, .int (nI (rowS T n mo (k + 1) - at_))), (7, .int (nI k)), (5, .int be), (4, .int (nI bv2)), (2, .int (nI at_)), (1, .int (nI (rc T n mo 64))), (0, .ref (ad 0))]) F dL_places_258 3 rfl (by decide) rfl ?_
                                            refine v_iload F dL_places_259 rfl ?_
                                            refine v_iload F dL_places_261 rfl ?_
                                            refine v_if_ge F 270 dL_places_263 (by decide) (fun c138 => ?_) (fun c138 => ?_)
                                            · replace c138 := nG (a := g) (b := 0) (by omega) (by decide) c138
                                              refine v_iconst (v := nI 0) F dL_places_270 (by decide) ?_
                                              refine v_iadd F dL_places_271 ?_
                                              refine v_topi (nI (bv2 + 0)) (nI_add bv2 0) ?_
                                              refine v_istore (lv' := [(4, .int (nI (bv2 + 0))), (3, .int (sv2 + (pVal T g x))), (6, .int (nI 1)), (11, .int (nI q_)), (10, .int (nI x)), (9, .int (nI g)), (8, .int (nI (rowS T n mo (k + 1) - at_))), (7, .int (nI k)), (5, .int be), (2, .int (nI at_)), (1, .int (nI (rc T n mo 64))), (0, .ref (ad 0))]) F dL_places_272 (by decide) rfl ?_
                                              refine v_iinc (lv' := [(10, .int (nI (x + 1))), (4, .int (nI (bv2 + 0))), (3, .int (sv2 + (pVal T g x))), (6, .int (nI 1)), (11, .int (nI q_)), (9, .int (nI g)), (8, .int (nI (rowS T n mo (k + 1) - at_))), (7, .int (nI k)), (5, .int be), (2, .int (nI at_)), (1, .int (nI (rc T n mo 64))), (0, .ref (ad 0))]) F (nI (x + 1)) dL_places_274 rfl (nI_add x 1) (by decide) rfl ?_
                                              refine v_goto F 93 dL_places_277 (by decide) ?_
                                              refine v_widen (k' := (x + 1)) (n' := 6 * (x + 1)) (by omega) (by omega) ?_
                                              refine v_st (w' := wC ad G (T, n, mo, ver) (S, h) u135.1 u135.2.1 u135.2.2 (co, len) Rd) (pc' := 93) (st' := []) rfl rfl rfl [0, 3, 5, 6, 7, 8, 1, 2, 9, 10, 11] (lv' := [(10, .int (nI (x + 1))), (6, .int (nI 1)), (9, .int (nI g)), (8, .int (nI (rowS T n mo (k + 1) - at_))), (7, .int (nI k)), (5, .int be), (4, .int (nI (bv2 + 0))), (3, .int (sv2 + (pVal T g x))), (2, .int (nI at_)), (1, .int (nI (rc T n mo 64))), (0, .ref (ad 0))]) rfl ?_
                                              exact ih93 (x + 1) (sv2 + (pVal T g x)) (bv2 + 0) u135.1 u135.2.1 u135.2.2 (by omega) (by omega) (by omega) (by first | (rw [hs2, sm_s (a := 0) (k := x) (by rw [Nat.zero_add]; exact hlx.trans hg), Nat.zero_add]; done) | (rw [sm_n (a := 0) (by rw [Nat.zero_add]; exact hlx.trans hg), hs2, nI_0, Int32.add_zero]; done)) (by first | (rw [hb2, plc, if_neg (by rw [plo, hlx, hg]; exact nI_neO (by omega))]; done) | (rw [hb2, plc, if_pos (by rw [plo, hlx, hg]; rfl)]; done)) (h137.1) (h137.2.1) (h137.2.2)
                                            · replace c138 := nGn (a := g) (b := 0) (by omega) (by decide) c138
                                              exact absurd c138 (Nat.not_lt_zero _)
                                          · replace c133 := nGn (a := g) (b := 0) (by omega) (by decide) c133
                                            exact absurd c133 (Nat.not_lt_zero _)
                              · replace c106 := nGn (a := g) (b := 0) (by omega) (by decide) c106
                                exact absurd c106 (Nat.not_lt_zero _)
                  refine v_st (w' := wC ad G (T, n, mo, ver) (S, h) u72.1 u72.2.1 u72.2.2 (co, len) Rd) (pc' := 93) (st' := []) rfl rfl rfl [0, 1, 2, 3, 4, 5, 6, 7, 8, 9, 10] (lv' := [(10, .int (nI at_)), (6, .int (nI 1)), (9, .int (nI g)), (8, .int (nI (rowS T n mo (k + 1) - at_))), (7, .int (nI k)), (5, .int be), (4, .int (nI bv)), (3, .int sv), (2, .int (nI at_)), (1, .int (nI (rc T n mo 64))), (0, .ref (ad 0))]) rfl ?_
                  exact L93 _ at_ sv bv u72.1 u72.2.1 u72.2.2 (Nat.lt_succ_self _) (by omega) (by omega) (hsv) (hbv) (h74.1) (h74.2.1) (h74.2.2)
    refine v_widen (k' := 0) (n' := 6 * 0) (by omega) (by omega) ?_
    refine v_st (w' := wC ad G (T, n, mo, ver) (S, h) u2.1 u2.2.1 u2.2.2 (co, len) Rd) (pc' := 31) (st' := []) rfl rfl rfl [0, 1, 2, 3, 4, 5, 6, 7] (lv' := [(7, .int (nI 0)), (6, .int (nI 1)), (5, .int (-2)), (4, .int (nI 0)), (3, .int (nI 0)), (2, .int (nI 0)), (1, .int (nI (rc T n mo 64))), (0, .ref (ad 0))]) rfl ?_
    exact L31 _ 0 0 (nI 0) 0 (-2) u2.1 u2.2.1 u2.2.2 (Nat.lt_succ_self _) (by omega) (rowS_0.symm) (rfl) (rfl) (fun _ => plo_ge hn _) (h4.1) (h4.2.1) (h4.2.2)
