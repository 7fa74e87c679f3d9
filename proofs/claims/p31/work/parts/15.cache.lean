theorem cs_RX2_32 : CSV RX2 32 RX1 yX1_version cX1_version 1 (some .int) 0 := ⟨wC_yX1_version, wM_RX2_32, wIm_yX1_version, wSe_yX1_version, wI_RX1, by decide +kernel, by decide⟩
theorem cs_RX2_37 : CSV RX2 37 RX1 yX1_moment cX1_moment 1 (some .int) 0 := ⟨wC_yX1_moment, wM_RX2_37, wIm_yX1_moment, wSe_yX1_moment, wI_RX1, by decide +kernel, by decide⟩
theorem cs_RX2_40 : CSV RX2 40 RX1 yX1_lowestBut cX1_lowestBut 8 (some .int) 3 := ⟨wC_yX1_lowestBut, wM_RX2_40, wIm_yX1_lowestBut, wSe_yX1_lowestBut, wI_RX1, by decide +kernel, by decide⟩
set_option maxHeartbeats 4000000 in
set_option maxRecDepth 100000 in
theorem m_X2_renew (lau : Launch) (G : GT) (ad : Nat → Nat) (T : Nat → Int32) (n mo ver : Nat) (Hs : HT) (P : PT) (Tr : TT) (Rg : RT) (Tx : XT) (Rd : DT) (hn : n ≤ 20) (hP : PCI T n mo ver P) : MV lau G 3 yX2_renew cX2_renew 2 none [.ref (ad 4)] (wC ad G (T, n, mo, ver) Hs P Tr Rg Tx Rd) (fun u : PT => wC ad G (T, n, mo, ver) Hs u Tr Rg Tx Rd) (fun u => POK T n mo ver u) := by
  obtain ⟨plw, pst, prw, ppv⟩ := P
  refine mv_of (by decide +kernel) (Nat.le_of_ble_eq_true rfl) ?_
  intro p e s m args below meth c A Q F hr hlk hQ
  refine v_st (w' := wC ad G (T, n, mo, ver) Hs (plw, pst, prw, ppv) Tr Rg Tx Rd) (pc' := 0) (st' := []) rfl rfl rfl [0] (lv' := [(0, .ref (ad 4))]) rfl ?_
  refine v_aload_n F dX2_renew_0 0 rfl rfl ?_
  refine v_get (v := .int ppv) F inlX2 (ci := 2) rfl 4 (by decide) rfl wF_RX2_22 dX2_renew_1 4 rfl rfl ?_
  refine v_aload_n F dX2_renew_4 0 rfl rfl ?_
  refine v_get (v := .ref (ad 1)) F inlX2 (ci := 2) rfl 0 (by decide) rfl wF_RX2_25 dX2_renew_5 4 rfl rfl ?_
  refine v_cVIF F cs_RX2_32 dX2_renew_8 1 (ci := 1) rfl rfl (m_X1_version lau G ad T n mo ver Hs (plw, pst, prw, ppv) Tr Rg Tx Rd ) (by decide) rfl rfl (Nat.le_of_ble_eq_true rfl) ⟨Nat.zero_le _, Nat.zero_le _⟩ (fun r1 u2 w3 => ?_)
  subst w3
  refine v_icmp_ne F 15 dX2_renew_11 (by decide) (fun hv => ?_) (fun hv => ?_)
  · refine v_aload_n F dX2_renew_15 0 rfl rfl ?_
    refine v_aload_n F dX2_renew_16 0 rfl rfl ?_
    refine v_get (v := .ref (ad 1)) F inlX2 (ci := 2) rfl 0 (by decide) rfl wF_RX2_25 dX2_renew_17 4 rfl rfl ?_
    refine v_cVIF F cs_RX2_32 dX2_renew_20 1 (ci := 1) rfl rfl (m_X1_version lau G ad T n mo ver Hs (plw, pst, prw, ppv) Tr Rg Tx Rd ) (by decide) rfl rfl (Nat.le_of_ble_eq_true rfl) ⟨Nat.zero_le _, Nat.zero_le _⟩ (fun r4 u5 w6 => ?_)
    subst w6
    refine v_put F inlX2 (ci := 2) rfl tyX2 tyX2_ok nmX2 4 (by decide) rfl rfl wF_RX2_22 dX2_renew_23 (ty := .int) (by decide +kernel) rfl rfl 4 rfl (Nat.le_of_ble_eq_true rfl) (wC ad G (T, n, mo, ver) Hs (plw, pst, prw, nI ver) Tr Rg Tx Rd) rfl ?_
    refine v_aload_n F dX2_renew_26 0 rfl rfl ?_
    refine v_iconst (v := nI 0) F dX2_renew_27 (by decide) ?_
    refine v_put F inlX2 (ci := 2) rfl tyX2 tyX2_ok nmX2 3 (by decide) rfl rfl wF_RX2_18 dX2_renew_28 (ty := .int) (by decide +kernel) rfl rfl 4 rfl (Nat.le_of_ble_eq_true rfl) (wC ad G (T, n, mo, ver) Hs (plw, pst, 0, nI ver) Tr Rg Tx Rd) rfl ?_
    refine v_iconst (v := nI 0) F dX2_renew_31 (by decide) ?_
    refine v_istore_n (lv' := [(1, .int (nI 0)), (0, .ref (ad 4))]) F dX2_renew_32 1 rfl (by decide) rfl ?_
    have L33 : ∀ (k_ : Nat) (i : Nat) (lo : Nat → Int32) (sts : Nat → Int32) (rw : Nat), 64 - i < k_ → (i ≤ 64) → (∀ x, x < i → lo x = plo T n mo x) → (∀ x, x < i → beg T n mo x = true → sts (rc T n mo x) = nI x) → (rw = rc T n mo i) → V p lau e (RM 3) s m args below meth c 2 G A Q (wC ad G (T, n, mo, ver) Hs (lo, sts, rw, nI ver) Tr Rg Tx Rd) 0 0 33 [(1, .int (nI i)), (0, .ref (ad 4))] [] := by
      intro k_
      induction k_ with
      | zero => exact fun i lo sts rw hk_ hi hlo hst hrw => absurd hk_ (Nat.not_lt_zero _)
      | succ k_ ih33 =>
        intro i lo sts rw hk_33 hi hlo hst hrw
        have hle := rc_le T n mo i
        refine v_iload_n F dX2_renew_33 1 rfl rfl ?_
        refine v_bipush (v := nI 64) F dX2_renew_34 (by decide) ?_
        refine v_icmp_ge F 108 dX2_renew_36 (by decide) (fun c7 => ?_) (fun c7 => ?_)
        · replace c7 := nG (a := i) (b := 64) (by omega) (by decide) c7
          refine v_aload_n F dX2_renew_108 0 rfl rfl ?_
          refine v_get (v := .ref (ad 11)) F inlX2 (ci := 2) rfl 2 (by decide) rfl wF_RX2_15 dX2_renew_109 4 rfl rfl ?_
          refine v_aload_n F dX2_renew_112 0 rfl rfl ?_
          refine v_get (v := .int (nI rw)) F inlX2 (ci := 2) rfl 3 (by decide) rfl wF_RX2_18 dX2_renew_113 4 rfl rfl ?_
          refine v_bipush (v := nI 64) F dX2_renew_116 (by decide) ?_
          refine v_iastN F dX2_renew_118 11 rfl rw rfl (by omega) (by decide) (wC ad G (T, n, mo, ver) Hs (lo, upd sts rw (nI 64), rw, nI ver) Tr Rg Tx Rd) rfl ?_
          exact v_vret F hr hlk hQ dX2_renew_119 ((lo, upd sts rw (nI 64), rw, nI ver)) rfl (by exact POK_end (show i = 64 by omega) hlo hst hrw)
        · replace c7 := nGn (a := i) (b := 64) (by omega) (by decide) c7
          refine v_aload_n F dX2_renew_39 0 rfl rfl ?_
          refine v_get (v := .ref (ad 10)) F inlX2 (ci := 2) rfl 1 (by decide) rfl wF_RX2_9 dX2_renew_40 4 rfl rfl ?_
          refine v_iload_n F dX2_renew_43 1 rfl rfl ?_
          refine v_aload_n F dX2_renew_44 0 rfl rfl ?_
          refine v_get (v := .ref (ad 1)) F inlX2 (ci := 2) rfl 0 (by decide) rfl wF_RX2_25 dX2_renew_45 4 rfl rfl ?_
          refine v_iconst (v := (-1)) F dX2_renew_48 (by decide) ?_
          refine v_iload_n F dX2_renew_49 1 rfl rfl ?_
          refine v_aload_n F dX2_renew_50 0 rfl rfl ?_
          refine v_get (v := .ref (ad 1)) F inlX2 (ci := 2) rfl 0 (by decide) rfl wF_RX2_25 dX2_renew_51 4 rfl rfl ?_
          refine v_cVIF F cs_RX2_37 dX2_renew_54 1 (ci := 1) rfl rfl (m_X1_moment lau G ad T n mo ver Hs (lo, sts, rw, nI ver) Tr Rg Tx Rd ) (by decide) rfl rfl (Nat.le_of_ble_eq_true rfl) ⟨Nat.zero_le _, Nat.zero_le _⟩ (fun r8 u9 w10 => ?_)
          subst w10
          refine v_cVIF F cs_RX2_40 dX2_renew_57 1 (ci := 1) rfl rfl (m_X1_lowestBut lau G ad T n mo ver Hs (lo, sts, rw, nI ver) Tr Rg Tx Rd (-1) i mo (by omega)) (by decide) rfl rfl (Nat.le_of_ble_eq_true rfl) ⟨Nat.zero_le _, Nat.zero_le _⟩ (fun r11 u12 w13 => ?_)
          subst w13
          refine v_iastN F dX2_renew_60 10 rfl i rfl (by omega) (by decide) (wC ad G (T, n, mo, ver) Hs (upd lo i (oI (lb T i mo ((-1)) n)), sts, rw, nI ver) Tr Rg Tx Rd) rfl ?_
          refine v_iload_n F dX2_renew_61 1 rfl rfl ?_
          refine v_if_eq F 82 dX2_renew_62 (by decide) (fun hi0 => ?_) (fun hi0 => ?_)
          · replace hi0 := nE (a := i) (b := 0) (by omega) (by decide) hi0
            have hb : beg T n mo i = true := beg_0 hi0
            refine v_aload_n F dX2_renew_82 0 rfl rfl ?_
            refine v_get (v := .ref (ad 11)) F inlX2 (ci := 2) rfl 2 (by decide) rfl wF_RX2_15 dX2_renew_83 4 rfl rfl ?_
            refine v_aload_n F dX2_renew_86 0 rfl rfl ?_
            refine v_get (v := .int (nI rw)) F inlX2 (ci := 2) rfl 3 (by decide) rfl wF_RX2_18 dX2_renew_87 4 rfl rfl ?_
            refine v_iload_n F dX2_renew_90 1 rfl rfl ?_
            refine v_iastN F dX2_renew_91 11 rfl rw rfl (by omega) (by decide) (wC ad G (T, n, mo, ver) Hs (upd lo i (oI (lb T i mo ((-1)) n)), upd sts rw (nI i), rw, nI ver) Tr Rg Tx Rd) rfl ?_
            refine v_aload_n F dX2_renew_92 0 rfl rfl ?_
            refine v_dup F dX2_renew_93 rfl ?_
            refine v_get (v := .int (nI rw)) F inlX2 (ci := 2) rfl 3 (by decide) rfl wF_RX2_18 dX2_renew_94 4 rfl rfl ?_
            refine v_iconst (v := nI 1) F dX2_renew_97 (by decide) ?_
            refine v_iadd F dX2_renew_98 ?_
            refine v_topi (nI (rw + 1)) (nI_add rw 1) ?_
            refine v_put F inlX2 (ci := 2) rfl tyX2 tyX2_ok nmX2 3 (by decide) rfl rfl wF_RX2_18 dX2_renew_99 (ty := .int) (by decide +kernel) rfl rfl 4 rfl (Nat.le_of_ble_eq_true rfl) (wC ad G (T, n, mo, ver) Hs (upd lo i (oI (lb T i mo ((-1)) n)), upd sts rw (nI i), rw + 1, nI ver) Tr Rg Tx Rd) rfl ?_
            refine v_iinc (lv' := [(1, .int (nI (i + 1))), (0, .ref (ad 4))]) F (nI (i + 1)) dX2_renew_102 rfl (nI_add i 1) (by decide) rfl ?_
            refine v_goto F 33 dX2_renew_105 (by decide) ?_
            refine v_st (w' := wC ad G (T, n, mo, ver) Hs (upd lo i (oI (lb T i mo ((-1)) n)), upd sts rw (nI i), rw + 1, nI ver) Tr Rg Tx Rd) (pc' := 33) (st' := []) rfl rfl rfl [0, 1] (lv' := [(1, .int (nI (i + 1))), (0, .ref (ad 4))]) rfl ?_
            exact ih33 (i + 1) (upd lo i (oI (lb T i mo ((-1)) n))) (upd sts rw (nI i)) (rw + 1) (by omega) (by omega) (pl_step hlo) (by first | exact st_stepb hst hrw hb | exact st_stepn hst hb) (by first | exact rw_stepb hrw hb | exact rw_stepn hrw hb)
          · replace hi0 := nEn (a := i) (b := 0) (by omega) (by decide) hi0
            refine v_aload_n F dX2_renew_65 0 rfl rfl ?_
            refine v_get (v := .ref (ad 10)) F inlX2 (ci := 2) rfl 1 (by decide) rfl wF_RX2_9 dX2_renew_66 4 rfl rfl ?_
            refine v_iload_n F dX2_renew_69 1 rfl rfl ?_
            refine v_ialdN F dX2_renew_70 10 rfl i rfl (by omega) (by decide) ((upd lo i (oI (lb T i mo ((-1)) n))) i) rfl ?_
            refine v_aload_n F dX2_renew_71 0 rfl rfl ?_
            refine v_get (v := .ref (ad 10)) F inlX2 (ci := 2) rfl 1 (by decide) rfl wF_RX2_9 dX2_renew_72 4 rfl rfl ?_
            refine v_iload_n F dX2_renew_75 1 rfl rfl ?_
            refine v_iconst (v := nI 1) F dX2_renew_76 (by decide) ?_
            refine v_isub F dX2_renew_77 ?_
            refine v_topi (nI (i - 1)) (pk_sub (by omega)) ?_
            refine v_ialdN F dX2_renew_78 10 rfl (i - 1) rfl (by omega) (by decide) ((upd lo i (oI (lb T i mo ((-1)) n))) (i - 1)) rfl ?_
            refine v_icmp_eq F 102 dX2_renew_79 (by decide) (fun c14 => ?_) (fun c14 => ?_)
            · have hb : beg T n mo i = false := beg_n hlo hi0 c14
              refine v_iinc (lv' := [(1, .int (nI (i + 1))), (0, .ref (ad 4))]) F (nI (i + 1)) dX2_renew_102 rfl (nI_add i 1) (by decide) rfl ?_
              refine v_goto F 33 dX2_renew_105 (by decide) ?_
              refine v_st (w' := wC ad G (T, n, mo, ver) Hs (upd lo i (oI (lb T i mo ((-1)) n)), sts, rw, nI ver) Tr Rg Tx Rd) (pc' := 33) (st' := []) rfl rfl rfl [0, 1] (lv' := [(1, .int (nI (i + 1))), (0, .ref (ad 4))]) rfl ?_
              exact ih33 (i + 1) (upd lo i (oI (lb T i mo ((-1)) n))) sts rw (by omega) (by omega) (pl_step hlo) (by first | exact st_stepb hst hrw hb | exact st_stepn hst hb) (by first | exact rw_stepb hrw hb | exact rw_stepn hrw hb)
            · have hb : beg T n mo i = true := beg_y hlo hi0 c14
              refine v_aload_n F dX2_renew_82 0 rfl rfl ?_
              refine v_get (v := .ref (ad 11)) F inlX2 (ci := 2) rfl 2 (by decide) rfl wF_RX2_15 dX2_renew_83 4 rfl rfl ?_
              refine v_aload_n F dX2_renew_86 0 rfl rfl ?_
              refine v_get (v := .int (nI rw)) F inlX2 (ci := 2) rfl 3 (by decide) rfl wF_RX2_18 dX2_renew_87 4 rfl rfl ?_
              refine v_iload_n F dX2_renew_90 1 rfl rfl ?_
              refine v_iastN F dX2_renew_91 11 rfl rw rfl (by omega) (by decide) (wC ad G (T, n, mo, ver) Hs (upd lo i (oI (lb T i mo ((-1)) n)), upd sts rw (nI i), rw, nI ver) Tr Rg Tx Rd) rfl ?_
              refine v_aload_n F dX2_renew_92 0 rfl rfl ?_
              refine v_dup F dX2_renew_93 rfl ?_
              refine v_get (v := .int (nI rw)) F inlX2 (ci := 2) rfl 3 (by decide) rfl wF_RX2_18 dX2_renew_94 4 rfl rfl ?_
              refine v_iconst (v := nI 1) F dX2_renew_97 (by decide) ?_
              refine v_iadd F dX2_renew_98 ?_
              refine v_topi (nI (rw + 1)) (nI_add rw 1) ?_
              refine v_put F inlX2 (ci := 2) rfl tyX2 tyX2_ok nmX2 3 (by decide) rfl rfl wF_RX2_18 dX2_renew_99 (ty := .int) (by decide +kernel) rfl rfl 4 rfl (Nat.le_of_ble_eq_true rfl) (wC ad G (T, n, mo, ver) Hs (upd lo i (oI (lb T i mo ((-1)) n)), upd sts rw (nI i), rw + 1, nI ver) Tr Rg Tx Rd) rfl ?_
              refine v_iinc (lv' := [(1, .int (nI (i + 1))), (0, .ref (ad 4))]) F (nI (i + 1)) dX2_renew_102 rfl (nI_add i 1) (by decide) rfl ?_
              refine v_goto F 33 dX2_renew_105 (by decide) ?_
              refine v_st (w' := wC ad G (T, n, mo, ver) Hs (upd lo i (oI (lb T i mo ((-1)) n)), upd sts rw (nI i), rw + 1, nI ver) Tr Rg Tx Rd) (pc' := 33) (st' := []) rfl rfl rfl [0, 1] (lv' := [(1, .int (nI (i + 1))), (0, .ref (ad 4))]) rfl ?_
              exact ih33 (i + 1) (upd lo i (oI (lb T i mo ((-1)) n))) (upd sts rw (nI i)) (rw + 1) (by omega) (by omega) (pl_step hlo) (by first | exact st_stepb hst hrw hb | exact st_stepn hst hb) (by first | exact rw_stepb hrw hb | exact rw_stepn hrw hb)
    refine v_st (w' := wC ad G (T, n, mo, ver) Hs (plw, pst, 0, nI ver) Tr Rg Tx Rd) (pc' := 33) (st' := []) rfl rfl rfl [0, 1] (lv' := [(1, .int (nI 0)), (0, .ref (ad 4))]) rfl ?_
    exact L33 _ 0 plw pst 0 (Nat.lt_succ_self _) (by omega) (fun x hx => absurd hx (Nat.not_lt_zero x)) (fun x hx => absurd hx (Nat.not_lt_zero x)) (rfl)
  · exact v_vret F hr hlk hQ dX2_renew_14 ((plw, pst, prw, ppv)) rfl (by exact hP.2 hv)
theorem cs_RX2_29 : CSV RX2 29 RX2 yX2_renew cX2_renew 2 none 0 := ⟨wC_yX2_renew, wM_RX2_29, wIm_yX2_renew, wSe_yX2_renew, wI_RX2, by decide +kernel, by decide⟩
set_option maxHeartbeats 4000000 in
set_option maxRecDepth 100000 in
theorem m_X2_lineAt (lau : Launch) (G : GT) (ad : Nat → Nat) (T : Nat → Int32) (n mo ver : Nat) (Hs : HT) (P : PT) (Tr : TT) (Rg : RT) (Tx : XT) (Rd : DT) (x : Nat) (hx : x < 64) (hn : n ≤ 20) (hP : PCI T n mo ver P) : MI lau G 4 yX2_lineAt cX2_lineAt 2 (some .int) [.ref (ad 4), .int (nI x)] (wC ad G (T, n, mo, ver) Hs P Tr Rg Tx Rd) (fun u : PT => wC ad G (T, n, mo, ver) Hs u Tr Rg Tx Rd) (fun r u => r = plo T n mo x ∧ PCI T n mo ver u) := by
  refine mi_of (by decide +kernel) (Nat.le_of_ble_eq_true rfl) ?_
  intro p e s m args below meth c A Q F hr hlk hQ
  refine v_st (w' := wC ad G (T, n, mo, ver) Hs P Tr Rg Tx Rd) (pc' := 0) (st' := []) rfl rfl rfl [0, 1] (lv' := [(0, .ref (ad 4)), (1, .int (nI x))]) rfl ?_
  refine v_aload_n F dX2_lineAt_0 0 rfl rfl ?_
  refine v_cVVF F cs_RX2_29 dX2_lineAt_1 4 (ci := 2) rfl rfl (m_X2_renew lau G ad T n mo ver Hs P Tr Rg Tx Rd (by omega) hP) (by decide) rfl rfl (Nat.le_of_ble_eq_true rfl) ⟨Nat.zero_le _, Nat.zero_le _⟩ (fun u2 w3 => ?_)
  have hPk := w3
  refine v_iload_n F dX2_lineAt_4 1 rfl rfl ?_
  refine v_if_lt F 14 dX2_lineAt_5 (by decide) (fun c4 => ?_) (fun c4 => ?_)
  · replace c4 := nL (a := x) (b := 0) (by omega) (by decide) c4
    exact absurd c4 (Nat.not_lt_zero _)
  · replace c4 := nLn (a := x) (b := 0) (by omega) (by decide) c4
    refine v_iload_n F dX2_lineAt_8 1 rfl rfl ?_
    refine v_bipush (v := nI 64) F dX2_lineAt_9 (by decide) ?_
    refine v_icmp_lt F 18 dX2_lineAt_11 (by decide) (fun c5 => ?_) (fun c5 => ?_)
    · replace c5 := nL (a := x) (b := 64) (by omega) (by decide) c5
      refine v_aload_n F dX2_lineAt_18 0 rfl rfl ?_
      refine v_get (v := .ref (ad 10)) F inlX2 (ci := 2) rfl 1 (by decide) rfl wF_RX2_9 dX2_lineAt_19 4 rfl rfl ?_
      refine v_iload_n F dX2_lineAt_22 1 rfl rfl ?_
      refine v_ialdN F dX2_lineAt_23 10 rfl x rfl (by omega) (by decide) (u2.1 x) rfl ?_
      refine v_topi ((plo T n mo x)) (hPk.2.1 x hx) ?_
      exact v_iret F hr hlk hQ dX2_lineAt_24 (u2) rfl (by exact ⟨rfl, POK.ci hPk⟩)
    · replace c5 := nLn (a := x) (b := 64) (by omega) (by decide) c5
      omega
set_option maxHeartbeats 4000000 in
set_option maxRecDepth 100000 in
theorem m_X2_placesOf (lau : Launch) (G : GT) (ad : Nat → Nat) (T : Nat → Int32) (n mo ver : Nat) (Hs : HT) (P : PT) (Tr : TT) (Rg : RT) (Tx : XT) (Rd : DT) (ln : Int32) (hn : n ≤ 20) (hP : PCI T n mo ver P) : MI lau G 4 yX2_placesOf cX2_placesOf 4 (some .int) [.ref (ad 4), .int ln] (wC ad G (T, n, mo, ver) Hs P Tr Rg Tx Rd) (fun u : PT => wC ad G (T, n, mo, ver) Hs u Tr Rg Tx Rd) (fun r u => r = nI (plc T n mo ln 64) ∧ PCI T n mo ver u) := by
  refine mi_of (by decide +kernel) (Nat.le_of_ble_eq_true rfl) ?_
  intro p e s m args below meth c A Q F hr hlk hQ
  refine v_st (w' := wC ad G (T, n, mo, ver) Hs P Tr Rg Tx Rd) (pc' := 0) (st' := []) rfl rfl rfl [0, 1] (lv' := [(0, .ref (ad 4)), (1, .int ln)]) rfl ?_
  refine v_aload_n F dX2_placesOf_0 0 rfl rfl ?_
  refine v_cVVF F cs_RX2_29 dX2_placesOf_1 4 (ci := 2) rfl rfl (m_X2_renew lau G ad T n mo ver Hs P Tr Rg Tx Rd (by omega) hP) (by decide) rfl rfl (Nat.le_of_ble_eq_true rfl) ⟨Nat.zero_le _, Nat.zero_le _⟩ (fun u2 w3 => ?_)
  have hPk := w3
  refine v_iconst (v := nI 0) F dX2_placesOf_4 (by decide) ?_
  refine v_istore_n (lv' := [(2, .int (nI 0)), (0, .ref (ad 4)), (1, .int ln)]) F dX2_placesOf_5 2 rfl (by decide) rfl ?_
  refine v_iconst (v := nI 0) F dX2_placesOf_6 (by decide) ?_
  refine v_istore_n (lv' := [(3, .int (nI 0)), (2, .int (nI 0)), (0, .ref (ad 4)), (1, .int ln)]) F dX2_placesOf_7 3 rfl (by decide) rfl ?_
  have L8 : ∀ (k_ : Nat) (i : Nat) (k : Nat), 64 - i < k_ → (i ≤ 64) → (k = plc T n mo ln i) → V p lau e (RM 4) s m args below meth c 4 G A Q (wC ad G (T, n, mo, ver) Hs u2 Tr Rg Tx Rd) 0 0 8 [(3, .int (nI i)), (2, .int (nI k)), (0, .ref (ad 4)), (1, .int ln)] [] := by
    intro k_
    induction k_ with
    | zero => exact fun i k hk_ hi hk => absurd hk_ (Nat.not_lt_zero _)
    | succ k_ ih8 =>
      intro i k hk_8 hi hk
      refine v_iload_n F dX2_placesOf_8 3 rfl rfl ?_
      refine v_bipush (v := nI 64) F dX2_placesOf_9 (by decide) ?_
      refine v_icmp_ge F 33 dX2_placesOf_11 (by decide) (fun c4 => ?_) (fun c4 => ?_)
      · replace c4 := nG (a := i) (b := 64) (by omega) (by decide) c4
        refine v_iload_n F dX2_placesOf_33 2 rfl rfl ?_
        exact v_iret F hr hlk hQ dX2_placesOf_34 (u2) rfl (by exact ⟨by rw [hk, show i = 64 by omega], POK.ci hPk⟩)
      · replace c4 := nGn (a := i) (b := 64) (by omega) (by decide) c4
        refine v_aload_n F dX2_placesOf_14 0 rfl rfl ?_
        refine v_get (v := .ref (ad 10)) F inlX2 (ci := 2) rfl 1 (by decide) rfl wF_RX2_9 dX2_placesOf_15 4 rfl rfl ?_
        refine v_iload_n F dX2_placesOf_18 3 rfl rfl ?_
        refine v_ialdN F dX2_placesOf_19 10 rfl i rfl (by omega) (by decide) (u2.1 i) rfl ?_
        refine v_topi ((plo T n mo i)) (hPk.2.1 i (by omega)) ?_
        refine v_iload_n F dX2_placesOf_20 1 rfl rfl ?_
        refine v_icmp_ne F 27 dX2_placesOf_21 (by decide) (fun c5 => ?_) (fun c5 => ?_)
        · refine v_iinc (lv' := [(3, .int (nI (i + 1))), (2, .int (nI k)), (0, .ref (ad 4)), (1, .int ln)]) F (nI (i + 1)) dX2_placesOf_27 rfl (nI_add i 1) (by decide) rfl ?_
          refine v_goto F 8 dX2_placesOf_30 (by decide) ?_
          refine v_st (w' := wC ad G (T, n, mo, ver) Hs u2 Tr Rg Tx Rd) (pc' := 8) (st' := []) rfl rfl rfl [0, 1, 2, 3] (lv' := [(3, .int (nI (i + 1))), (2, .int (nI k)), (0, .ref (ad 4)), (1, .int ln)]) rfl ?_
          exact ih8 (i + 1) k (by omega) (by omega) (by simp [plc, *])
        · refine v_iinc (lv' := [(2, .int (nI (k + 1))), (3, .int (nI i)), (0, .ref (ad 4)), (1, .int ln)]) F (nI (k + 1)) dX2_placesOf_24 rfl (nI_add k 1) (by decide) rfl ?_
          refine v_iinc (lv' := [(3, .int (nI (i + 1))), (2, .int (nI (k + 1))), (0, .ref (ad 4)), (1, .int ln)]) F (nI (i + 1)) dX2_placesOf_27 rfl (nI_add i 1) (by decide) rfl ?_
          refine v_goto F 8 dX2_placesOf_30 (by decide) ?_
          refine v_st (w' := wC ad G (T, n, mo, ver) Hs u2 Tr Rg Tx Rd) (pc' := 8) (st' := []) rfl rfl rfl [0, 1, 2, 3] (lv' := [(3, .int (nI (i + 1))), (2, .int (nI (k + 1))), (0, .ref (ad 4)), (1, .int ln)]) rfl ?_
          exact ih8 (i + 1) (k + 1) (by omega) (by omega) (by simp [plc, *])
  refine v_st (w' := wC ad G (T, n, mo, ver) Hs u2 Tr Rg Tx Rd) (pc' := 8) (st' := []) rfl rfl rfl [0, 1, 2, 3] (lv' := [(3, .int (nI 0)), (2, .int (nI 0)), (0, .ref (ad 4)), (1, .int ln)]) rfl ?_
  exact L8 _ 0 0 (Nat.lt_succ_self _) (by omega) (rfl)
set_option maxHeartbeats 4000000 in
set_option maxRecDepth 100000 in
theorem m_X2_rowCount (lau : Launch) (G : GT) (ad : Nat → Nat) (T : Nat → Int32) (n mo ver : Nat) (Hs : HT) (P : PT) (Tr : TT) (Rg : RT) (Tx : XT) (Rd : DT) (hn : n ≤ 20) (hP : PCI T n mo ver P) : MI lau G 4 yX2_rowCount cX2_rowCount 1 (some .int) [.ref (ad 4)] (wC ad G (T, n, mo, ver) Hs P Tr Rg Tx Rd) (fun u : PT => wC ad G (T, n, mo, ver) Hs u Tr Rg Tx Rd) (fun r u => r = nI (rc T n mo 64) ∧ PCI T n mo ver u) := by
  refine mi_of (by decide +kernel) (Nat.le_of_ble_eq_true rfl) ?_
  intro p e s m args below meth c A Q F hr hlk hQ
  refine v_st (w' := wC ad G (T, n, mo, ver) Hs P Tr Rg Tx Rd) (pc' := 0) (st' := []) rfl rfl rfl [0] (lv' := [(0, .ref (ad 4))]) rfl ?_
  refine v_aload_n F dX2_rowCount_0 0 rfl rfl ?_
  refine v_cVVF F cs_RX2_29 dX2_rowCount_1 4 (ci := 2) rfl rfl (m_X2_renew lau G ad T n mo ver Hs P Tr Rg Tx Rd (by omega) hP) (by decide) rfl rfl (Nat.le_of_ble_eq_true rfl) ⟨Nat.zero_le _, Nat.zero_le _⟩ (fun u2 w3 => ?_)
  have hPk := w3
  refine v_aload_n F dX2_rowCount_4 0 rfl rfl ?_
  refine v_get (v := .int (nI u2.2.2.1)) F inlX2 (ci := 2) rfl 3 (by decide) rfl wF_RX2_18 dX2_rowCount_5 4 rfl rfl ?_
  refine v_topi (nI (rc T n mo 64)) (congrArg nI hPk.2.2.1) ?_
  exact v_iret F hr hlk hQ dX2_rowCount_8 (u2) rfl (by exact ⟨rfl, POK.ci hPk⟩)
set_option maxHeartbeats 4000000 in
set_option maxRecDepth 100000 in
theorem m_X2_rowStart (lau : Launch) (G : GT) (ad : Nat → Nat) (T : Nat → Int32) (n mo ver : Nat) (Hs : HT) (P : PT) (Tr : TT) (Rg : RT) (Tx : XT) (Rd : DT) (ro : Nat) (hro : ro ≤ rc T n mo 64) (hn : n ≤ 20) (hP : PCI T n mo ver P) : MI lau G 4 yX2_rowStart cX2_rowStart 2 (some .int) [.ref (ad 4), .int (nI ro)] (wC ad G (T, n, mo, ver) Hs P Tr Rg Tx Rd) (fun u : PT => wC ad G (T, n, mo, ver) Hs u Tr Rg Tx Rd) (fun r u => r = nI (rowS T n mo ro) ∧ PCI T n mo ver u) := by
  have hrc := rc_le T n mo 64
  refine mi_of (by decide +kernel) (Nat.le_of_ble_eq_true rfl) ?_
  intro p e s m args below meth c A Q F hr hlk hQ
  refine v_st (w' := wC ad G (T, n, mo, ver) Hs P Tr Rg Tx Rd) (pc' := 0) (st' := []) rfl rfl rfl [0, 1] (lv' := [(0, .ref (ad 4)), (1, .int (nI ro))]) rfl ?_
  refine v_aload_n F dX2_rowStart_0 0 rfl rfl ?_
  refine v_cVVF F cs_RX2_29 dX2_rowStart_1 4 (ci := 2) rfl rfl (m_X2_renew lau G ad T n mo ver Hs P Tr Rg Tx Rd (by omega) hP) (by decide) rfl rfl (Nat.le_of_ble_eq_true rfl) ⟨Nat.zero_le _, Nat.zero_le _⟩ (fun u2 w3 => ?_)
  have hPk := w3
  refine v_iload_n F dX2_rowStart_4 1 rfl rfl ?_
  refine v_if_lt F 16 dX2_rowStart_5 (by decide) (fun c4 => ?_) (fun c4 => ?_)
  · replace c4 := nL (a := ro) (b := 0) (by omega) (by decide) c4
    exact absurd c4 (Nat.not_lt_zero _)
  · replace c4 := nLn (a := ro) (b := 0) (by omega) (by decide) c4
    refine v_iload_n F dX2_rowStart_8 1 rfl rfl ?_
    refine v_aload_n F dX2_rowStart_9 0 rfl rfl ?_
    refine v_get (v := .int (nI u2.2.2.1)) F inlX2 (ci := 2) rfl 3 (by decide) rfl wF_RX2_18 dX2_rowStart_10 4 rfl rfl ?_
    refine v_topi (nI (rc T n mo 64)) (congrArg nI hPk.2.2.1) ?_
    refine v_icmp_le F 20 dX2_rowStart_13 (by decide) (fun c5 => ?_) (fun c5 => ?_)
    · replace c5 := nK (a := ro) (b := (rc T n mo 64)) (by omega) (by omega) c5
      refine v_aload_n F dX2_rowStart_20 0 rfl rfl ?_
      refine v_get (v := .ref (ad 11)) F inlX2 (ci := 2) rfl 2 (by decide) rfl wF_RX2_15 dX2_rowStart_21 4 rfl rfl ?_
      refine v_iload_n F dX2_rowStart_24 1 rfl rfl ?_
      refine v_ialdN F dX2_rowStart_25 11 rfl ro rfl (by omega) (by decide) (u2.2.1 ro) rfl ?_
      refine v_topi (nI (rowS T n mo ro)) (rowS_of hPk hro) ?_
      exact v_iret F hr hlk hQ dX2_rowStart_26 (u2) rfl (by exact ⟨rfl, POK.ci hPk⟩)
    · replace c5 := nKn (a := ro) (b := (rc T n mo 64)) (by omega) (by omega) c5
      omega
set_option maxHeartbeats 4000000 in
set_option maxRecDepth 100000 in
theorem m_J7_fill16 (lau : Launch) (G : GT) (ad : Nat → Nat) (L : LT) (Hs : HT) (P : PT) (Tr : TT) (fm : Nat → Int32) (rv : Int32) (Tx : XT) (Rd : DT) (v : Int32) : MV lau G 0 yJ7_fill_53178 cJ7_fill_53178 4 none [.ref (ad 16), .int v] (wC ad G L Hs P Tr (fm, rv) Tx Rd) (fun u : Unit => wC ad G L Hs P Tr (fillF fm v 20, rv) Tx Rd) (fun u => True) := by
  refine mv_of (by decide +kernel) (Nat.le_of_ble_eq_true rfl) ?_
  intro p e s m args below meth c A Q F hr hlk hQ
  refine v_st (w' := wC ad G L Hs P Tr (fm, rv) Tx Rd) (pc' := 0) (st' := []) rfl rfl rfl [0, 1] (lv' := [(0, .ref (ad 16)), (1, .int v)]) rfl ?_
  refine v_iconst (v := nI 0) F dJ7_fill_53178_0 (by decide) ?_
  refine v_istore_n (lv' := [(2, .int (nI 0)), (0, .ref (ad 16)), (1, .int v)]) F dJ7_fill_53178_1 2 rfl (by decide) rfl ?_
  refine v_aload_n F dJ7_fill_53178_2 0 rfl rfl ?_
  refine v_alen F dJ7_fill_53178_3 16 rfl ?_
  refine v_istore_n (lv' := [(3, .int (nI 20)), (2, .int (nI 0)), (0, .ref (ad 16)), (1, .int v)]) F dJ7_fill_53178_4 3 rfl (by decide) rfl ?_
  have L5 : ∀ (k_ : Nat) (i : Nat), 20 - i < k_ → (i ≤ 20) → V p lau e (RM 0) s m args below meth c 4 G A Q (wC ad G L Hs P Tr (fillF fm v i, rv) Tx Rd) 0 0 5 [(3, .int (nI 20)), (2, .int (nI i)), (0, .ref (ad 16)), (1, .int v)] [] := by
    intro k_
    induction k_ with
    | zero => exact fun i hk_ hi => absurd hk_ (Nat.not_lt_zero _)
    | succ k_ ih5 =>
      intro i hk_5 hi
      refine v_iload_n F dJ7_fill_53178_5 2 rfl rfl ?_
      refine v_iload_n F dJ7_fill_53178_6 3 rfl rfl ?_
      refine v_icmp_ge F 20 dJ7_fill_53178_7 (by decide) (fun c1 => ?_) (fun c1 => ?_)
      · replace c1 := nG (a := i) (b := 20) (by omega) (by decide) c1
        refine v_w (w' := wC ad G L Hs P Tr (fillF fm v 20, rv) Tx Rd) (congrArg (fun z_ => wC ad G L Hs P Tr z_ Tx Rd) (show (fillF fm v i, rv) = (fillF fm v 20, rv) by rw [show i = 20 by omega])) ?_
        exact v_vret F hr hlk hQ dJ7_fill_53178_20 (()) rfl (by trivial)
      · replace c1 := nGn (a := i) (b := 20) (by omega) (by decide) c1
        refine v_aload_n F dJ7_fill_53178_10 0 rfl rfl ?_
        refine v_iload_n F dJ7_fill_53178_11 2 rfl rfl ?_
        refine v_iload_n F dJ7_fill_53178_12 1 rfl rfl ?_
        refine v_iastN F dJ7_fill_53178_13 16 rfl i rfl (by omega) (by decide) (wC ad G L Hs P Tr (upd (fillF fm v i) i v, rv) Tx Rd) rfl ?_
        refine v_iinc (lv' := [(2, .int (nI (i + 1))), (3, .int (nI 20)), (0, .ref (ad 16)), (1, .int v)]) F (nI (i + 1)) dJ7_fill_53178_14 rfl (nI_add i 1) (by decide) rfl ?_
        refine v_goto F 5 dJ7_fill_53178_17 (by decide) ?_
        refine v_w (w' := wC ad G L Hs P Tr (fillF fm v (i + 1), rv) Tx Rd) (congrArg (fun z_ => wC ad G L Hs P Tr z_ Tx Rd) (show (upd (fillF fm v i) i v, rv) = (fillF fm v (i + 1), rv) by first | rw [← fillF_0] | rw [fillF_s])) ?_
        refine v_st (w' := wC ad G L Hs P Tr (fillF fm v (i + 1), rv) Tx Rd) (pc' := 5) (st' := []) rfl rfl rfl [1, 0, 2, 3] (lv' := [(3, .int (nI 20)), (2, .int (nI (i + 1))), (0, .ref (ad 16)), (1, .int v)]) rfl ?_
        exact ih5 (i + 1) (by omega) (by omega)
  refine v_w (w' := wC ad G L Hs P Tr (fillF fm v 0, rv) Tx Rd) (congrArg (fun z_ => wC ad G L Hs P Tr z_ Tx Rd) (show (fm, rv) = (fillF fm v 0, rv) by first | rw [← fillF_0] | rw [fillF_s])) ?_
  refine v_st (w' := wC ad G L Hs P Tr (fillF fm v 0, rv) Tx Rd) (pc' := 5) (st' := []) rfl rfl rfl [0, 1, 2, 3] (lv' := [(3, .int (nI 20)), (2, .int (nI 0)), (0, .ref (ad 16)), (1, .int v)]) rfl ?_
  exact L5 _ 0 (Nat.lt_succ_self _) (by omega)
set_option maxHeartbeats 4000000 in
set_option maxRecDepth 100000 in
theorem m_J7_fill14 (lau : Launch) (G : GT) (ad : Nat → Nat) (L : LT) (Hs : HT) (P : PT) (fp lp ke sp : Nat → Int32) (tv : Int32) (Rg : RT) (Tx : XT) (Rd : DT) (v : Int32) : MV lau G 0 yJ7_fill_53178 cJ7_fill_53178 4 none [.ref (ad 14), .int v] (wC ad G L Hs P (fp, lp, ke, sp, tv) Rg Tx Rd) (fun u : Unit => wC ad G L Hs P (fp, lp, fillF ke v 128, sp, tv) Rg Tx Rd) (fun u => True) := by
  refine mv_of (by decide +kernel) (Nat.le_of_ble_eq_true rfl) ?_
  intro p e s m args below meth c A Q F hr hlk hQ
  refine v_st (w' := wC ad G L Hs P (fp, lp, ke, sp, tv) Rg Tx Rd) (pc' := 0) (st' := []) rfl rfl rfl [0, 1] (lv' := [(0, .ref (ad 14)), (1, .int v)]) rfl ?_
  refine v_iconst (v := nI 0) F dJ7_fill_53178_0 (by decide) ?_
  refine v_istore_n (lv' := [(2, .int (nI 0)), (0, .ref (ad 14)), (1, .int v)]) F dJ7_fill_53178_1 2 rfl (by decide) rfl ?_
  refine v_aload_n F dJ7_fill_53178_2 0 rfl rfl ?_
  refine v_alen F dJ7_fill_53178_3 14 rfl ?_
  refine v_istore_n (lv' := [(3, .int (nI 128)), (2, .int (nI 0)), (0, .ref (ad 14)), (1, .int v)]) F dJ7_fill_53178_4 3 rfl (by decide) rfl ?_
  have L5 : ∀ (k_ : Nat) (i : Nat), 128 - i < k_ → (i ≤ 128) → V p lau e (RM 0) s m args below meth c 4 G A Q (wC ad G L Hs P (fp, lp, fillF ke v i, sp, tv) Rg Tx Rd) 0 0 5 [(3, .int (nI 128)), (2, .int (nI i)), (0, .ref (ad 14)), (1, .int v)] [] := by
    intro k_
    induction k_ with
    | zero => exact fun i hk_ hi => absurd hk_ (Nat.not_lt_zero _)
    | succ k_ ih5 =>
      intro i hk_5 hi
      refine v_iload_n F dJ7_fill_53178_5 2 rfl rfl ?_
      refine v_iload_n F dJ7_fill_53178_6 3 rfl rfl ?_
      refine v_icmp_ge F 20 dJ7_fill_53178_7 (by decide) (fun c1 => ?_) (fun c1 => ?_)
      · replace c1 := nG (a := i) (b := 128) (by omega) (by decide) c1
        refine v_w (w' := wC ad G L Hs P (fp, lp, fillF ke v 128, sp, tv) Rg Tx Rd) (congrArg (fun z_ => wC ad G L Hs P z_ Rg Tx Rd) (show (fp, lp, fillF ke v i, sp, tv) = (fp, lp, fillF ke v 128, sp, tv) by rw [show i = 128 by omega])) ?_
        exact v_vret F hr hlk hQ dJ7_fill_53178_20 (()) rfl (by trivial)
      · replace c1 := nGn (a := i) (b := 128) (by omega) (by decide) c1
        refine v_aload_n F dJ7_fill_53178_10 0 rfl rfl ?_
        refine v_iload_n F dJ7_fill_53178_11 2 rfl rfl ?_
        refine v_iload_n F dJ7_fill_53178_12 1 rfl rfl ?_
        refine v_iastN F dJ7_fill_53178_13 14 rfl i rfl (by omega) (by decide) (wC ad G L Hs P (fp, lp, upd (fillF ke v i) i v, sp, tv) Rg Tx Rd) rfl ?_
        refine v_iinc (lv' := [(2, .int (nI (i + 1))), (3, .int (nI 128)), (0, .ref (ad 14)), (1, .int v)]) F (nI (i + 1)) dJ7_fill_53178_14 rfl (nI_add i 1) (by decide) rfl ?_
        refine v_goto F 5 dJ7_fill_53178_17 (by decide) ?_
        refine v_w (w' := wC ad G L Hs P (fp, lp, fillF ke v (i + 1), sp, tv) Rg Tx Rd) (congrArg (fun z_ => wC ad G L Hs P z_ Rg Tx Rd) (show (fp, lp, upd (fillF ke v i) i v, sp, tv) = (fp, lp, fillF ke v (i + 1), sp, tv) by first | rw [← fillF_0] | rw [fillF_s])) ?_
        refine v_st (w' := wC ad G L Hs P (fp, lp, fillF ke v (i + 1), sp, tv) Rg Tx Rd) (pc' := 5) (st' := []) rfl rfl rfl [1, 0, 2, 3] (lv' := [(3, .int (nI 128)), (2, .int (nI (i + 1))), (0, .ref (ad 14)), (1, .int v)]) rfl ?_
        exact ih5 (i + 1) (by omega) (by omega)
  refine v_w (w' := wC ad G L Hs P (fp, lp, fillF ke v 0, sp, tv) Rg Tx Rd) (congrArg (fun z_ => wC ad G L Hs P z_ Rg Tx Rd) (show (fp, lp, ke, sp, tv) = (fp, lp, fillF ke v 0, sp, tv) by first | rw [← fillF_0] | rw [fillF_s])) ?_
  refine v_st (w' := wC ad G L Hs P (fp, lp, fillF ke v 0, sp, tv) Rg Tx Rd) (pc' := 5) (st' := []) rfl rfl rfl [0, 1, 2, 3] (lv' := [(3, .int (nI 128)), (2, .int (nI 0)), (0, .ref (ad 14)), (1, .int v)]) rfl ?_
  exact L5 _ 0 (Nat.lt_succ_self _) (by omega)
set_option maxHeartbeats 4000000 in
set_option maxRecDepth 100000 in
theorem m_J7_fill15 (lau : Launch) (G : GT) (ad : Nat → Nat) (L : LT) (Hs : HT) (P : PT) (fp lp ke sp : Nat → Int32) (tv : Int32) (Rg : RT) (Tx : XT) (Rd : DT) (v : Int32) : MV lau G 0 yJ7_fill_53178 cJ7_fill_53178 4 none [.ref (ad 15), .int v] (wC ad G L Hs P (fp, lp, ke, sp, tv) Rg Tx Rd) (fun u : Unit => wC ad G L Hs P (fp, lp, ke, fillF sp v 128, tv) Rg Tx Rd) (fun u => True) := by
  refine mv_of (by decide +kernel) (Nat.le_of_ble_eq_true rfl) ?_
  intro p e s m args below meth c A Q F hr hlk hQ
  refine v_st (w' := wC ad G L Hs P (fp, lp, ke, sp, tv) Rg Tx Rd) (pc' := 0) (st' := []) rfl rfl rfl [0, 1] (lv' := [(0, .ref (ad 15)), (1, .int v)]) rfl ?_
  refine v_iconst (v := nI 0) F dJ7_fill_53178_0 (by decide) ?_
  refine v_istore_n (lv' := [(2, .int (nI 0)), (0, .ref (ad 15)), (1, .int v)]) F dJ7_fill_53178_1 2 rfl (by decide) rfl ?_
  refine v_aload_n F dJ7_fill_53178_2 0 rfl rfl ?_
  refine v_alen F dJ7_fill_53178_3 15 rfl ?_
  refine v_istore_n (lv' := [(3, .int (nI 128)), (2, .int (nI 0)), (0, .ref (ad 15)), (1, .int v)]) F dJ7_fill_53178_4 3 rfl (by decide) rfl ?_
  have L5 : ∀ (k_ : Nat) (i : Nat), 128 - i < k_ → (i ≤ 128) → V p lau e (RM 0) s m args below meth c 4 G A Q (wC ad G L Hs P (fp, lp, ke, fillF sp v i, tv) Rg Tx Rd) 0 0 5 [(3, .int (nI 128)), (2, .int (nI i)), (0, .ref (ad 15)), (1, .int v)] [] := by
    intro k_
    induction k_ with
    | zero => exact fun i hk_ hi => absurd hk_ (Nat.not_lt_zero _)
    | succ k_ ih5 =>
      intro i hk_5 hi
      refine v_iload_n F dJ7_fill_53178_5 2 rfl rfl ?_
      refine v_iload_n F dJ7_fill_53178_6 3 rfl rfl ?_
      refine v_icmp_ge F 20 dJ7_fill_53178_7 (by decide) (fun c1 => ?_) (fun c1 => ?_)
      · replace c1 := nG (a := i) (b := 128) (by omega) (by decide) c1
        refine v_w (w' := wC ad G L Hs P (fp, lp, ke, fillF sp v 128, tv) Rg Tx Rd) (congrArg (fun z_ => wC ad G L Hs P z_ Rg Tx Rd) (show (fp, lp, ke, fillF sp v i, tv) = (fp, lp, ke, fillF sp v 128, tv) by rw [show i = 128 by omega])) ?_
        exact v_vret F hr hlk hQ dJ7_fill_53178_20 (()) rfl (by trivial)
      · replace c1 := nGn (a := i) (b := 128) (by omega) (by decide) c1
        refine v_aload_n F dJ7_fill_53178_10 0 rfl rfl ?_
        refine v_iload_n F dJ7_fill_53178_11 2 rfl rfl ?_
        refine v_iload_n F dJ7_fill_53178_12 1 rfl rfl ?_
        refine v_iastN F dJ7_fill_53178_13 15 rfl i rfl (by omega) (by decide) (wC ad G L Hs P (fp, lp, ke, upd (fillF sp v i) i v, tv) Rg Tx Rd) rfl ?_
        refine v_iinc (lv' := [(2, .int (nI (i + 1))), (3, .int (nI 128)), (0, .ref (ad 15)), (1, .int v)]) F (nI (i + 1)) dJ7_fill_53178_14 rfl (nI_add i 1) (by decide) rfl ?_
        refine v_goto F 5 dJ7_fill_53178_17 (by decide) ?_
        refine v_w (w' := wC ad G L Hs P (fp, lp, ke, fillF sp v (i + 1), tv) Rg Tx Rd) (congrArg (fun z_ => wC ad G L Hs P z_ Rg Tx Rd) (show (fp, lp, ke, upd (fillF sp v i) i v, tv) = (fp, lp, ke, fillF sp v (i + 1), tv) by first | rw [← fillF_0] | rw [fillF_s])) ?_
        refine v_st (w' := wC ad G L Hs P (fp, lp, ke, fillF sp v (i + 1), tv) Rg Tx Rd) (pc' := 5) (st' := []) rfl rfl rfl [1, 0, 2, 3] (lv' := [(3, .int (nI 128)), (2, .int (nI (i + 1))), (0, .ref (ad 15)), (1, .int v)]) rfl ?_
        exact ih5 (i + 1) (by omega) (by omega)
  refine v_w (w' := wC ad G L Hs P (fp, lp, ke, fillF sp v 0, tv) Rg Tx Rd) (congrArg (fun z_ => wC ad G L Hs P z_ Rg Tx Rd) (show (fp, lp, ke, sp, tv) = (fp, lp, ke, fillF sp v 0, tv) by first | rw [← fillF_0] | rw [fillF_s])) ?_
  refine v_st (w' := wC ad G L Hs P (fp, lp, ke, fillF sp v 0, tv) Rg Tx Rd) (pc' := 5) (st' := []) rfl rfl rfl [0, 1, 2, 3] (lv' := [(3, .int (nI 128)), (2, .int (nI 0)), (0, .ref (ad 15)), (1, .int v)]) rfl ?_
  exact L5 _ 0 (Nat.lt_succ_self _) (by omega)
theorem cs_RX4_48 : CSV RX4 48 RX1 yX1_lowestBut cX1_lowestBut 8 (some .int) 3 := ⟨wC_yX1_lowestBut, wM_RX4_48, wIm_yX1_lowestBut, wSe_yX1_lowestBut, wI_RX1, by decide +kernel, by decide⟩
set_option maxHeartbeats 4000000 in
set_option maxRecDepth 100000 in
theorem m_X4_note (lau : Launch) (G : GT) (ad : Nat → Nat) (T : Nat → Int32) (n mo ver : Nat) (Hs : HT) (P : PT) (Tr : TT) (fm : Nat → Int32) (rv : Int32) (Tx : XT) (Rd : DT) (t : Nat) (hn : n ≤ 20) : MV lau G 3 yX4_note cX4_note 4 none [.ref (ad 6), .int (nI t)] (wC ad G (T, n, mo, ver) Hs P Tr (fm, rv) Tx Rd) (fun u : Unit => wC ad G (T, n, mo, ver) Hs P Tr (nt T n t fm 64, rv) Tx Rd) (fun u => True) := by
  refine mv_of (by decide +kernel) (Nat.le_of_ble_eq_true rfl) ?_
  intro p e s m args below meth c A Q F hr hlk hQ
  refine v_st (w' := wC ad G (T, n, mo, ver) Hs P Tr (fm, rv) Tx Rd) (pc' := 0) (st' := []) rfl rfl rfl [0, 1] (lv' := [(0, .ref (ad 6)), (1, .int (nI t))]) rfl ?_
  refine v_iconst (v := nI 0) F dX4_note_0 (by decide) ?_
  refine v_istore_n (lv' := [(2, .int (nI 0)), (0, .ref (ad 6)), (1, .int (nI t))]) F dX4_note_1 2 rfl (by decide) rfl ?_
  have L2 : ∀ (k_ : Nat) (x : Nat), 64 - x < k_ → (x ≤ 64) → V p lau e (RM 3) s m args below meth c 4 G A Q (wC ad G (T, n, mo, ver) Hs P Tr (nt T n t fm x, rv) Tx Rd) 0 0 2 [(2, .int (nI x)), (0, .ref (ad 6)), (1, .int (nI t))] [] := by
    intro k_
    induction k_ with
    | zero => exact fun x hk_ hx => absurd hk_ (Nat.not_lt_zero _)
    | succ k_ ih2 =>
      intro x hk_2 hx
      refine v_iload_n F dX4_note_2 2 rfl rfl ?_
      refine v_bipush (v := nI 64) F dX4_note_3 (by decide) ?_
      refine v_icmp_ge F 52 dX4_note_5 (by decide) (fun c1 => ?_) (fun c1 => ?_)
      · replace c1 := nG (a := x) (b := 64) (by omega) (by decide) c1
        refine v_w (w' := wC ad G (T, n, mo, ver) Hs P Tr (nt T n t fm 64, rv) Tx Rd) (congrArg (fun z_ => wC ad G (T, n, mo, ver) Hs P Tr z_ Tx Rd) (show (nt T n t fm x, rv) = (nt T n t fm 64, rv) by rw [show x = 64 by omega])) ?_
        exact v_vret F hr hlk hQ dX4_note_52 (()) rfl (by trivial)
      · replace c1 := nGn (a := x) (b := 64) (by omega) (by decide) c1
        refine v_aload_n F dX4_note_8 0 rfl rfl ?_
        refine v_get (v := .ref (ad 1)) F inlX4 (ci := 4) rfl 0 (by decide) rfl wF_RX4_19 dX4_note_9 6 rfl rfl ?_
        refine v_iconst (v := (-1)) F dX4_note_12 (by decide) ?_
        refine v_iload_n F dX4_note_13 2 rfl rfl ?_
        refine v_iload_n F dX4_note_14 1 rfl rfl ?_
        refine v_cVIF F cs_RX4_48 dX4_note_15 1 (ci := 1) rfl rfl (m_X1_lowestBut lau G ad T n mo ver Hs P Tr (nt T n t fm x, rv) Tx Rd (-1) x t (by omega)) (by decide) rfl rfl (Nat.le_of_ble_eq_true rfl) ⟨Nat.zero_le _, Nat.zero_le _⟩ (fun r2 u3 w4 => ?_)
        subst w4
        rcases hg : lb T x t (-1) n with _ | g
        · refine v_topi (-1) rfl ?_
          refine v_istore_n (lv' := [(3, .int (-1)), (2, .int (nI x)), (0, .ref (ad 6)), (1, .int (nI t))]) F dX4_note_18 3 rfl (by decide) rfl ?_
          refine v_iload_n F dX4_note_19 3 rfl rfl ?_
          refine v_if_lt F 46 dX4_note_20 (by decide) (fun _ => ?_) (fun h => absurd h (by decide))
          refine v_iinc (lv' := [(2, .int (nI (x + 1))), (3, .int (-1)), (0, .ref (ad 6)), (1, .int (nI t))]) F (nI (x + 1)) dX4_note_46 rfl (nI_add x 1) (by decide) rfl ?_
          refine v_goto F 2 dX4_note_49 (by decide) ?_
          refine v_w (w' := wC ad G (T, n, mo, ver) Hs P Tr (nt T n t fm (x + 1), rv) Tx Rd) (congrArg (fun z_ => wC ad G (T, n, mo, ver) Hs P Tr z_ Tx Rd) (show (nt T n t fm x, rv) = (nt T n t fm (x + 1), rv) by first | rfl | rw [nt_0 hg] | rw [nt_1 hg hfm] | rw [nt_2 hg hfm])) ?_
          refine v_st (w' := wC ad G (T, n, mo, ver) Hs P Tr (nt T n t fm (x + 1), rv) Tx Rd) (pc' := 2) (st' := []) rfl rfl rfl [0, 2, 3] (lv' := [(2, .int (nI (x + 1))), (0, .ref (ad 6)), (1, .int (nI t))]) rfl ?_
          exact ih2 (x + 1) (by omega) (by omega)
        · refine v_topi (nI g) rfl ?_
          have hgn := lb_lt _ _ _ _ _ _ hg
          refine v_istore_n (lv' := [(3, .int (nI g)), (2, .int (nI x)), (0, .ref (ad 6)), (1, .int (nI t))]) F dX4_note_18 3 rfl (by decide) rfl ?_
          refine v_iload_n F dX4_note_19 3 rfl rfl ?_
          refine v_if_lt F 46 dX4_note_20 (by decide) (fun c5 => ?_) (fun c5 => ?_)
          · replace c5 := nL (a := g) (b := 0) (by omega) (by decide) c5
            exact absurd c5 (Nat.not_lt_zero _)
          · replace c5 := nLn (a := g) (b := 0) (by omega) (by decide) c5
            refine v_iload_n F dX4_note_23 3 rfl rfl ?_
            refine v_bipush (v := nI 20) F dX4_note_24 (by decide) ?_
            refine v_icmp_ge F 46 dX4_note_26 (by decide) (fun c6 => ?_) (fun c6 => ?_)
            · replace c6 := nG (a := g) (b := 20) (by omega) (by decide) c6
              omega
            · replace c6 := nGn (a := g) (b := 20) (by omega) (by decide) c6
              refine v_aload_n F dX4_note_29 0 rfl rfl ?_
              refine v_get (v := .ref (ad 16)) F inlX4 (ci := 4) rfl 1 (by decide) rfl wF_RX4_9 dX4_note_30 6 rfl rfl ?_
              refine v_iload_n F dX4_note_33 3 rfl rfl ?_
              refine v_ialdN F dX4_note_34 16 rfl g rfl (by omega) (by decide) ((nt T n t fm x) g) rfl ?_
              refine v_iconst (v := (-1)) F dX4_note_35 (by decide) ?_
              refine v_icmp_ne F 46 dX4_note_36 (by decide) (fun hfm => ?_) (fun hfm => ?_)
              · refine v_iinc (lv' := [(2, .int (nI (x + 1))), (3, .int (nI g)), (0, .ref (ad 6)), (1, .int (nI t))]) F (nI (x + 1)) dX4_note_46 rfl (nI_add x 1) (by decide) rfl ?_
                refine v_goto F 2 dX4_note_49 (by decide) ?_
                refine v_w (w' := wC ad G (T, n, mo, ver) Hs P Tr (nt T n t fm (x + 1), rv) Tx Rd) (congrArg (fun z_ => wC ad G (T, n, mo, ver) Hs P Tr z_ Tx Rd) (show (nt T n t fm x, rv) = (nt T n t fm (x + 1), rv) by first | rfl | rw [nt_0 hg] | rw [nt_1 hg hfm] | rw [nt_2 hg hfm])) ?_
                refine v_st (w' := wC ad G (T, n, mo, ver) Hs P Tr (nt T n t fm (x + 1), rv) Tx Rd) (pc' := 2) (st' := []) rfl rfl rfl [0, 2, 3] (lv' := [(2, .int (nI (x + 1))), (0, .ref (ad 6)), (1, .int (nI t))]) rfl ?_
                exact ih2 (x + 1) (by omega) (by omega)
              · refine v_aload_n F dX4_note_39 0 rfl rfl ?_
                refine v_get (v := .ref (ad 16)) F inlX4 (ci := 4) rfl 1 (by decide) rfl wF_RX4_9 dX4_note_40 6 rfl rfl ?_
                refine v_iload_n F dX4_note_43 3 rfl rfl ?_
                refine v_iload_n F dX4_note_44 1 rfl rfl ?_
                refine v_iastN F dX4_note_45 16 rfl g rfl (by omega) (by decide) (wC ad G (T, n, mo, ver) Hs P Tr (upd (nt T n t fm x) g (nI t), rv) Tx Rd) rfl ?_
                refine v_iinc (lv' := [(2, .int (nI (x + 1))), (3, .int (nI g)), (0, .ref (ad 6)), (1, .int (nI t))]) F (nI (x + 1)) dX4_note_46 rfl (nI_add x 1) (by decide) rfl ?_
                refine v_goto F 2 dX4_note_49 (by decide) ?_
                refine v_w (w' := wC ad G (T, n, mo, ver) Hs P Tr (nt T n t fm (x + 1), rv) Tx Rd) (congrArg (fun z_ => wC ad G (T, n, mo, ver) Hs P Tr z_ Tx Rd) (show (upd (nt T n t fm x) g (nI t), rv) = (nt T n t fm (x + 1), rv) by first | rfl | rw [nt_0 hg] | rw [nt_1 hg hfm] | rw [nt_2 hg hfm])) ?_
                refine v_st (w' := wC ad G (T, n, mo, ver) Hs P Tr (nt T n t fm (x + 1), rv) Tx Rd) (pc' := 2) (st' := []) rfl rfl rfl [0, 2, 3] (lv' := [(2, .int (nI (x + 1))), (0, .ref (ad 6)), (1, .int (nI t))]) rfl ?_
                exact ih2 (x + 1) (by omega) (by omega)
  refine v_w (w' := wC ad G (T, n, mo, ver) Hs P Tr (nt T n t fm 0, rv) Tx Rd) (congrArg (fun z_ => wC ad G (T, n, mo, ver) Hs P Tr z_ Tx Rd) (show (fm, rv) = (nt T n t fm 0, rv) by first | rfl | rw [nt_0 hg] | rw [nt_1 hg hfm] | rw [nt_2 hg hfm])) ?_
  refine v_st (w' := wC ad G (T, n, mo, ver) Hs P Tr (nt T n t fm 0, rv) Tx Rd) (pc' := 2) (st' := []) rfl rfl rfl [0, 1, 2] (lv' := [(2, .int (nI 0)), (0, .ref (ad 6)), (1, .int (nI t))]) rfl ?_
  exact L2 _ 0 (Nat.lt_succ_self _) (by omega)
theorem cs_RX4_32 : CSV RX4 32 RX1 yX1_version cX1_version 1 (some .int) 0 := ⟨wC_yX1_version, wM_RX4_32, wIm_yX1_version, wSe_yX1_version, wI_RX1, by decide +kernel, by decide⟩
theorem cs_RX4_34 : CSS RX4 34 yJ7_fill_53178 cJ7_fill_53178 4 none 2 := ⟨wC_yJ7_fill_53178, wM_RX4_34, wSt_yJ7_fill_53178, wI_RJ7, by decide +kernel, by decide⟩
theorem cs_RX4_40 : CSV RX4 40 RX1 yX1_livesChangeAt cX1_livesChangeAt 3 (some .boolean) 1 := ⟨wC_yX1_livesChangeAt, wM_RX4_40, wIm_yX1_livesChangeAt, wSe_yX1_livesChangeAt, wI_RX1, by decide +kernel, by decide⟩
theorem cs_RX4_44 : CSV RX4 44 RX4 yX4_note cX4_note 4 none 1 := ⟨wC_yX4_note, wM_RX4_44, wIm_yX4_note, wSe_yX4_note, wI_RX4, by decide +kernel, by decide⟩
set_option maxHeartbeats 4000000 in
set_option maxRecDepth 100000 in
theorem m_X4_renew (lau : Launch) (G : GT) (ad : Nat → Nat) (T : Nat → Int32) (n mo ver : Nat) (Hs : HT) (P : PT) (Tr : TT) (Rg : RT) (Tx : XT) (Rd : DT) (hn : n ≤ 20) (hR : RCI T n ver Rg) : MV lau G 4 yX4_renew cX4_renew 2 none [.ref (ad 6)] (wC ad G (T, n, mo, ver) Hs P Tr Rg Tx Rd) (fun u : RT => wC ad G (T, n, mo, ver) Hs P Tr u Tx Rd) (fun u => RK T n ver u) := by
  obtain ⟨fm, rv⟩ := Rg
  refine mv_of (by decide +kernel) (Nat.le_of_ble_eq_true rfl) ?_
  intro p e s m args below meth c A Q F hr hlk hQ
  refine v_st (w' := wC ad G (T, n, mo, ver) Hs P Tr (fm, rv) Tx Rd) (pc' := 0) (st' := []) rfl rfl rfl [0] (lv' := [(0, .ref (ad 6))]) rfl ?_
  refine v_aload_n F dX4_renew_0 0 rfl rfl ?_
  refine v_get (v := .int rv) F inlX4 (ci := 4) rfl 2 (by decide) rfl wF_RX4_15 dX4_renew_1 6 rfl rfl ?_
  refine v_aload_n F dX4_renew_4 0 rfl rfl ?_
  refine v_get (v := .ref (ad 1)) F inlX4 (ci := 4) rfl 0 (by decide) rfl wF_RX4_19 dX4_renew_5 6 rfl rfl ?_
  refine v_cVIF F cs_RX4_32 dX4_renew_8 1 (ci := 1) rfl rfl (m_X1_version lau G ad T n mo ver Hs P Tr (fm, rv) Tx Rd ) (by decide) rfl rfl (Nat.le_of_ble_eq_true rfl) ⟨Nat.zero_le _, Nat.zero_le _⟩ (fun r1 u2 w3 => ?_)
  subst w3
  refine v_icmp_ne F 15 dX4_renew_11 (by decide) (fun hv => ?_) (fun hv => ?_)
  · refine v_aload_n F dX4_renew_15 0 rfl rfl ?_
    refine v_aload_n F dX4_renew_16 0 rfl rfl ?_
    refine v_get (v := .ref (ad 1)) F inlX4 (ci := 4) rfl 0 (by decide) rfl wF_RX4_19 dX4_renew_17 6 rfl rfl ?_
    refine v_cVIF F cs_RX4_32 dX4_renew_20 1 (ci := 1) rfl rfl (m_X1_version lau G ad T n mo ver Hs P Tr (fm, rv) Tx Rd ) (by decide) rfl rfl (Nat.le_of_ble_eq_true rfl) ⟨Nat.zero_le _, Nat.zero_le _⟩ (fun r4 u5 w6 => ?_)
    subst w6
    refine v_put F inlX4 (ci := 4) rfl tyX4 tyX4_ok nmX4 2 (by decide) rfl rfl wF_RX4_15 dX4_renew_23 (ty := .int) (by decide +kernel) rfl rfl 6 rfl (Nat.le_of_ble_eq_true rfl) (wC ad G (T, n, mo, ver) Hs P Tr (fm, nI ver) Tx Rd) rfl ?_
    refine v_aload_n F dX4_renew_26 0 rfl rfl ?_
    refine v_get (v := .ref (ad 16)) F inlX4 (ci := 4) rfl 1 (by decide) rfl wF_RX4_9 dX4_renew_27 6 rfl rfl ?_
    refine v_iconst (v := (-1)) F dX4_renew_30 (by decide) ?_
    refine v_cSVF F cs_RX4_34 dX4_renew_31 (m_J7_fill16 lau G ad (T, n, mo, ver) Hs P Tr fm (nI ver) Tx Rd (-1) ) (by decide) rfl rfl (Nat.le_of_ble_eq_true rfl) ⟨Nat.zero_le _, Nat.zero_le _⟩ (fun u8 w9 => ?_)
    refine v_iconst (v := nI 0) F dX4_renew_34 (by decide) ?_
    refine v_istore_n (lv' := [(1, .int (nI 0)), (0, .ref (ad 6))]) F dX4_renew_35 1 rfl (by decide) rfl ?_
    have L36 : ∀ (k_ : Nat) (t : Nat), 100 - t < k_ → (t ≤ 100) → V p lau e (RM 4) s m args below meth c 2 G A Q (wC ad G (T, n, mo, ver) Hs P Tr (rn T n (fillF fm (-1) 20) t, nI ver) Tx Rd) 0 0 36 [(1, .int (nI t)), (0, .ref (ad 6))] [] := by
      intro k_
      induction k_ with
      | zero => exact fun t hk_ ht => absurd hk_ (Nat.not_lt_zero _)
      | succ k_ ih36 =>
        intro t hk_36 ht
        refine v_iload_n F dX4_renew_36 1 rfl rfl ?_
        refine v_bipush (v := nI 100) F dX4_renew_37 (by decide) ?_
        refine v_icmp_ge F 64 dX4_renew_39 (by decide) (fun c10 => ?_) (fun c10 => ?_)
        · replace c10 := nG (a := t) (b := 100) (by omega) (by decide) c10
          exact v_vret F hr hlk hQ dX4_renew_64 ((rn T n (fillF fm (-1) 20) t, nI ver)) rfl (by exact ⟨rfl, fm, by rw [show t = 100 by omega]⟩)
        · replace c10 := nGn (a := t) (b := 100) (by omega) (by decide) c10
          refine v_aload_n F dX4_renew_42 0 rfl rfl ?_
          refine v_get (v := .ref (ad 1)) F inlX4 (ci := 4) rfl 0 (by decide) rfl wF_RX4_19 dX4_renew_43 6 rfl rfl ?_
          refine v_iload_n F dX4_renew_46 1 rfl rfl ?_
          refine v_cVIF F cs_RX4_40 dX4_renew_47 1 (ci := 1) rfl rfl (m_X1_livesChangeAt lau G ad T n mo ver Hs P Tr (rn T n (fillF fm (-1) 20) t, nI ver) Tx Rd t (by omega)) (by decide) rfl rfl (Nat.le_of_ble_eq_true rfl) ⟨Nat.zero_le _, Nat.zero_le _⟩ (fun r11 u12 w13 => ?_)
          subst w13
          refine v_if_eq F 58 dX4_renew_50 (by decide) (fun hch => ?_) (fun hch => ?_)
          · replace hch := bI_f hch
            refine v_iinc (lv' := [(1, .int (nI (t + 1))), (0, .ref (ad 6))]) F (nI (t + 1)) dX4_renew_58 rfl (nI_add t 1) (by decide) rfl ?_
            refine v_goto F 36 dX4_renew_61 (by decide) ?_
            refine v_w (w' := wC ad G (T, n, mo, ver) Hs P Tr (rn T n (fillF fm (-1) 20) (t + 1), nI ver) Tx Rd) (congrArg (fun z_ => wC ad G (T, n, mo, ver) Hs P Tr z_ Tx Rd) (show (rn T n (fillF fm (-1) 20) t, nI ver) = (rn T n (fillF fm (-1) 20) (t + 1), nI ver) by first | rfl | rw [rn_1 hch] | rw [rn_0 hch])) ?_
            refine v_st (w' := wC ad G (T, n, mo, ver) Hs P Tr (rn T n (fillF fm (-1) 20) (t + 1), nI ver) Tx Rd) (pc' := 36) (st' := []) rfl rfl rfl [0, 1] (lv' := [(1, .int (nI (t + 1))), (0, .ref (ad 6))]) rfl ?_
            exact ih36 (t + 1) (by omega) (by omega)
          · replace hch := bI_t hch
            refine v_aload_n F dX4_renew_53 0 rfl rfl ?_
            refine v_iload_n F dX4_renew_54 1 rfl rfl ?_
            refine v_cVVF F cs_RX4_44 dX4_renew_55 6 (ci := 4) rfl rfl (m_X4_note lau G ad T n mo ver Hs P Tr (rn T n (fillF fm (-1) 20) t) (nI ver) Tx Rd t (by omega)) (by decide) rfl rfl (Nat.le_of_ble_eq_true rfl) ⟨Nat.zero_le _, Nat.zero_le _⟩ (fun u15 w16 => ?_)
            refine v_iinc (lv' := [(1, .int (nI (t + 1))), (0, .ref (ad 6))]) F (nI (t + 1)) dX4_renew_58 rfl (nI_add t 1) (by decide) rfl ?_
            refine v_goto F 36 dX4_renew_61 (by decide) ?_
            refine v_w (w' := wC ad G (T, n, mo, ver) Hs P Tr (rn T n (fillF fm (-1) 20) (t + 1), nI ver) Tx Rd) (congrArg (fun z_ => wC ad G (T, n, mo, ver) Hs P Tr z_ Tx Rd) (show (nt T n t (rn T n (fillF fm (-1) 20) t) 64, (nI ver)) = (rn T n (fillF fm (-1) 20) (t + 1), nI ver) by first | rfl | rw [rn_1 hch] | rw [rn_0 hch])) ?_
            refine v_st (w' := wC ad G (T, n, mo, ver) Hs P Tr (rn T n (fillF fm (-1) 20) (t + 1), nI ver) Tx Rd) (pc' := 36) (st' := []) rfl rfl rfl [0, 1] (lv' := [(1, .int (nI (t + 1))), (0, .ref (ad 6))]) rfl ?_
            exact ih36 (t + 1) (by omega) (by omega)
    refine v_w (w' := wC ad G (T, n, mo, ver) Hs P Tr (rn T n (fillF fm (-1) 20) 0, nI ver) Tx Rd) (congrArg (fun z_ => wC ad G (T, n, mo, ver) Hs P Tr z_ Tx Rd) (show (fillF fm ((-1)) 20, (nI ver)) = (rn T n (fillF fm (-1) 20) 0, nI ver) by first | rfl | rw [rn_1 hch] | rw [rn_0 hch])) ?_
    refine v_st (w' := wC ad G (T, n, mo, ver) Hs P Tr (rn T n (fillF fm (-1) 20) 0, nI ver) Tx Rd) (pc' := 36) (st' := []) rfl rfl rfl [0, 1] (lv' := [(1, .int (nI 0)), (0, .ref (ad 6))]) rfl ?_
    exact L36 _ 0 (Nat.lt_succ_self _) (by omega)
  · exact v_vret F hr hlk hQ dX4_renew_14 ((fm, rv)) rfl (by exact hR.2 hv)
theorem cs_RX4_23 : CSV RX4 23 RX4 yX4_renew cX4_renew 2 none 0 := ⟨wC_yX4_renew, wM_RX4_23, wIm_yX4_renew, wSe_yX4_renew, wI_RX4, by decide +kernel, by decide⟩
set_option maxHeartbeats 4000000 in
set_option maxRecDepth 100000 in
theorem m_X4_firstMoment (lau : Launch) (G : GT) (ad : Nat → Nat) (T : Nat → Int32) (n mo ver : Nat) (Hs : HT) (P : PT) (Tr : TT) (Rg : RT) (Tx : XT) (Rd : DT) (li : Nat) (hl : li < 20) (hn : n ≤ 20) (hR : RCI T n ver Rg) : MI lau G 5 yX4_firstMoment cX4_firstMoment 2 (some .int) [.ref (ad 6), .int (nI li)] (wC ad G (T, n, mo, ver) Hs P Tr Rg Tx Rd) (fun u : RT => wC ad G (T, n, mo, ver) Hs P Tr u Tx Rd) (fun r u => r = fmo T n li ∧ RCI T n ver u) := by
  refine mi_of (by decide +kernel) (Nat.le_of_ble_eq_true rfl) ?_
  intro p e s m args below meth c A Q F hr hlk hQ
  refine v_st (w' := wC ad G (T, n, mo, ver) Hs P Tr Rg Tx Rd) (pc' := 0) (st' := []) rfl rfl rfl [0, 1] (lv' := [(0, .ref (ad 6)), (1, .int (nI li))]) rfl ?_
  refine v_aload_n F dX4_firstMoment_0 0 rfl rfl ?_
  refine v_cVVF F cs_RX4_23 dX4_firstMoment_1 6 (ci := 4) rfl rfl (m_X4_renew lau G ad T n mo ver Hs P Tr Rg Tx Rd (by omega) hR) (by decide) rfl rfl (Nat.le_of_ble_eq_true rfl) ⟨Nat.zero_le _, Nat.zero_le _⟩ (fun u2 w3 => ?_)
  have hRk := w3
  refine v_iload_n F dX4_firstMoment_4 1 rfl rfl ?_
  refine v_if_lt F 14 dX4_firstMoment_5 (by decide) (fun c4 => ?_) (fun c4 => ?_)
  · replace c4 := nL (a := li) (b := 0) (by omega) (by decide) c4
    exact absurd c4 (Nat.not_lt_zero _)
  · replace c4 := nLn (a := li) (b := 0) (by omega) (by decide) c4
    refine v_iload_n F dX4_firstMoment_8 1 rfl rfl ?_
    refine v_bipush (v := nI 20) F dX4_firstMoment_9 (by decide) ?_
    refine v_icmp_lt F 18 dX4_firstMoment_11 (by decide) (fun c5 => ?_) (fun c5 => ?_)
    · replace c5 := nL (a := li) (b := 20) (by omega) (by decide) c5
      refine v_aload_n F dX4_firstMoment_18 0 rfl rfl ?_
      refine v_get (v := .ref (ad 16)) F inlX4 (ci := 4) rfl 1 (by decide) rfl wF_RX4_9 dX4_firstMoment_19 6 rfl rfl ?_
      refine v_iload_n F dX4_firstMoment_22 1 rfl rfl ?_
      refine v_ialdN F dX4_firstMoment_23 16 rfl li rfl (by omega) (by decide) (u2.1 li) rfl ?_
      refine v_topi ((fmo T n li)) (RK.val hRk hn hl) ?_
      exact v_iret F hr hlk hQ dX4_firstMoment_24 (u2) rfl (by exact ⟨rfl, RK.ci hRk⟩)
    · replace c5 := nLn (a := li) (b := 20) (by omega) (by decide) c5
      omega
theorem cs_RX4_26 : CSV RX4 26 RX1 yX1_size cX1_size 1 (some .int) 0 := ⟨wC_yX1_size, wM_RX4_26, wIm_yX1_size, wSe_yX1_size, wI_RX1, by decide +kernel, by decide⟩
set_option maxHeartbeats 4000000 in
set_option maxRecDepth 100000 in
theorem m_X4_neverLowest (lau : Launch) (G : GT) (ad : Nat → Nat) (T : Nat → Int32) (n mo ver : Nat) (Hs : HT) (P : PT) (Tr : TT) (Rg : RT) (Tx : XT) (Rd : DT) (hn : n ≤ 20) (hR : RCI T n ver Rg) : MI lau G 5 yX4_neverLowest cX4_neverLowest 3 (some .int) [.ref (ad 6)] (wC ad G (T, n, mo, ver) Hs P Tr Rg Tx Rd) (fun u : RT => wC ad G (T, n, mo, ver) Hs P Tr u Tx Rd) (fun r u => r = nvr T n n ∧ RCI T n ver u) := by
  refine mi_of (by decide +kernel) (Nat.le_of_ble_eq_true rfl) ?_
  intro p e s m args below meth c A Q F hr hlk hQ
  refine v_st (w' := wC ad G (T, n, mo, ver) Hs P Tr Rg Tx Rd) (pc' := 0) (st' := []) rfl rfl rfl [0] (lv' := [(0, .ref (ad 6))]) rfl ?_
  refine v_aload_n F dX4_neverLowest_0 0 rfl rfl ?_
  refine v_cVVF F cs_RX4_23 dX4_neverLowest_1 6 (ci := 4) rfl rfl (m_X4_renew lau G ad T n mo ver Hs P Tr Rg Tx Rd (by omega) hR) (by decide) rfl rfl (Nat.le_of_ble_eq_true rfl) ⟨Nat.zero_le _, Nat.zero_le _⟩ (fun u2 w3 => ?_)
  have hRk := w3
  refine v_iconst (v := nI 0) F dX4_neverLowest_4 (by decide) ?_
  refine v_istore_n (lv' := [(1, .int (nI 0)), (0, .ref (ad 6))]) F dX4_neverLowest_5 1 rfl (by decide) rfl ?_
  refine v_iconst (v := nI 0) F dX4_neverLowest_6 (by decide) ?_
  refine v_istore_n (lv' := [(2, .int (nI 0)), (1, .int (nI 0)), (0, .ref (ad 6))]) F dX4_neverLowest_7 2 rfl (by decide) rfl ?_
  have L8 : ∀ (k_ : Nat) (i : Nat) (k : Int32), n - i < k_ → (i ≤ n) → (k = nvr T n i) → V p lau e (RM 5) s m args below meth c 3 G A Q (wC ad G (T, n, mo, ver) Hs P Tr u2 Tx Rd) 0 0 8 [(2, .int (nI i)), (1, .int k), (0, .ref (ad 6))] [] := by
    intro k_
    induction k_ with
    | zero => exact fun i k hk_ hi hk => absurd hk_ (Nat.not_lt_zero _)
    | succ k_ ih8 =>
      intro i k hk_8 hi hk
      refine v_iload_n F dX4_neverLowest_8 2 rfl rfl ?_
      refine v_aload_n F dX4_neverLowest_9 0 rfl rfl ?_
      refine v_get (v := .ref (ad 1)) F inlX4 (ci := 4) rfl 0 (by decide) rfl wF_RX4_19 dX4_neverLowest_10 6 rfl rfl ?_
      refine v_cVIF F cs_RX4_26 dX4_neverLowest_13 1 (ci := 1) rfl rfl (m_X1_size lau G ad T n mo ver Hs P Tr u2 Tx Rd ) (by decide) rfl rfl (Nat.le_of_ble_eq_true rfl) ⟨Nat.zero_le _, Nat.zero_le _⟩ (fun r4 u5 w6 => ?_)
      subst w6
      refine v_icmp_ge F 47 dX4_neverLowest_16 (by decide) (fun c7 => ?_) (fun c7 => ?_)
      · replace c7 := nG (a := i) (b := n) (by omega) (by omega) c7
        refine v_iload_n F dX4_neverLowest_47 1 rfl rfl ?_
        exact v_iret F hr hlk hQ dX4_neverLowest_48 (u2) rfl (by exact ⟨by rw [hk, show i = n by omega], RK.ci hRk⟩)
      · replace c7 := nGn (a := i) (b := n) (by omega) (by omega) c7
        refine v_iload_n F dX4_neverLowest_19 2 rfl rfl ?_
        refine v_bipush (v := nI 20) F dX4_neverLowest_20 (by decide) ?_
        refine v_icmp_ge F 47 dX4_neverLowest_22 (by decide) (fun c8 => ?_) (fun c8 => ?_)
        · replace c8 := nG (a := i) (b := 20) (by omega) (by decide) c8
          omega
        · replace c8 := nGn (a := i) (b := 20) (by omega) (by decide) c8
          refine v_aload_n F dX4_neverLowest_25 0 rfl rfl ?_
          refine v_get (v := .ref (ad 16)) F inlX4 (ci := 4) rfl 1 (by decide) rfl wF_RX4_9 dX4_neverLowest_26 6 rfl rfl ?_
          refine v_iload_n F dX4_neverLowest_29 2 rfl rfl ?_
          refine v_ialdN F dX4_neverLowest_30 16 rfl i rfl (by omega) (by decide) (u2.1 i) rfl ?_
          refine v_topi ((fmo T n i)) (RK.val hRk hn (by omega)) ?_
          refine v_iconst (v := (-1)) F dX4_neverLowest_31 (by decide) ?_
          refine v_icmp_ne F 41 dX4_neverLowest_32 (by decide) (fun c9 => ?_) (fun c9 => ?_)
          · refine v_iinc (lv' := [(2, .int (nI (i + 1))), (1, .int k), (0, .ref (ad 6))]) F (nI (i + 1)) dX4_neverLowest_41 rfl (nI_add i 1) (by decide) rfl ?_
            refine v_goto F 8 dX4_neverLowest_44 (by decide) ?_
            refine v_st (w' := wC ad G (T, n, mo, ver) Hs P Tr u2 Tx Rd) (pc' := 8) (st' := []) rfl rfl rfl [0, 1, 2] (lv' := [(2, .int (nI (i + 1))), (1, .int k), (0, .ref (ad 6))]) rfl ?_
            exact ih8 (i + 1) k (by omega) (by omega) (by simp [nvr, *])
          · refine v_iload_n F dX4_neverLowest_35 1 rfl rfl ?_
            refine v_iconst (v := nI 1) F dX4_neverLowest_36 (by decide) ?_
            refine v_iload_n F dX4_neverLowest_37 2 rfl rfl ?_
            refine v_ishl F dX4_neverLowest_38 ?_
            refine v_ior F dX4_neverLowest_39 ?_
            refine v_istore_n (lv' := [(1, .int (k ||| (nI 1 <<< (nI i &&& 31)))), (2, .int (nI i)), (0, .ref (ad 6))]) F dX4_neverLowest_40 1 rfl (by decide) rfl ?_
            refine v_iinc (lv' := [(2, .int (nI (i + 1))), (1, .int (k ||| (nI 1 <<< (nI i &&& 31)))), (0, .ref (ad 6))]) F (nI (i + 1)) dX4_neverLowest_41 rfl (nI_add i 1) (by decide) rfl ?_
            refine v_goto F 8 dX4_neverLowest_44 (by decide) ?_
            refine v_st (w' := wC ad G (T, n, mo, ver) Hs P Tr u2 Tx Rd) (pc' := 8) (st' := []) rfl rfl rfl [0, 1, 2] (lv' := [(2, .int (nI (i + 1))), (1, .int (k ||| (nI 1 <<< (nI i &&& 31)))), (0, .ref (ad 6))]) rfl ?_
            exact ih8 (i + 1) (k ||| (nI 1 <<< (nI i &&& 31))) (by omega) (by omega) (by simp [nvr, *])
  refine v_st (w' := wC ad G (T, n, mo, ver) Hs P Tr u2 Tx Rd) (pc' := 8) (st' := []) rfl rfl rfl [0, 1, 2] (lv' := [(2, .int (nI 0)), (1, .int (nI 0)), (0, .ref (ad 6))]) rfl ?_
  exact L8 _ 0 (nI 0) (Nat.lt_succ_self _) (by omega) (rfl)
