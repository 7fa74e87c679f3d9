def PUTS (lau : Launch) (G : GT) (ad : Nat → Nat) (T : Nat → Int32) (n mo ver : Nat) (Hs : HT) (P : PT) (fp lp : Nat → Int32) (tv : Int32) (Rg : RT) (Tx : XT) (Rd : DT) (f : Nat) : Prop :=
  ∀ (li k : Nat) (ke sp : Nat → Int32), li < n → 128 ≤ k * 2 ^ f → k < 1000000 → KOK ke n → MV lau G (f + 3) yX6_put cX6_put 8 none [.ref (ad 5), .int (nI li), .int (nI k)] (wC ad G (T, n, mo, ver) Hs P (fp, lp, ke, sp, tv) Rg Tx Rd) (fun _ : Unit => wC ad G (T, n, mo, ver) Hs P (fp, lp, (tPut T f li k (ke, sp)).1, (tPut T f li k (ke, sp)).2, tv) Rg Tx Rd) (fun _ => True)
theorem pk2 {k f : Nat} (h : 128 ≤ k * 2 ^ (f + 1)) : 128 ≤ 2 * k * 2 ^ f ∧ 128 ≤ (2 * k + 1) * 2 ^ f := by
  have e : k * 2 ^ (f + 1) = 2 * k * 2 ^ f := by rw [Nat.pow_succ, Nat.mul_comm (2 ^ f) 2, ← Nat.mul_assoc, Nat.mul_comm k 2]
  rw [e] at h
  refine ⟨h, Nat.le_trans h (Nat.mul_le_mul_right _ (by omega))⟩
theorem cs_RX6_60 : CSV RX6 60 RX6 yX6_put cX6_put 8 none 2 := ⟨wC_yX6_put, wM_RX6_60, wIm_yX6_put, wSe_yX6_put, wI_RX6, by decide +kernel, by decide⟩
theorem cs_RX6_64 : CSV RX6 64 RX1 yX1_property cX1_property 3 (some .int) 2 := ⟨wC_yX1_property, wM_RX6_64, wIm_yX1_property, wSe_yX1_property, wI_RX1, by decide +kernel, by decide⟩
theorem cs_RX6_68 : CSV RX6 68 RX1 yX1_isLower cX1_isLower 5 (some .boolean) 3 := ⟨wC_yX1_isLower, wM_RX6_68, wIm_yX1_isLower, wSe_yX1_isLower, wI_RX1, by decide +kernel, by decide⟩
set_option maxHeartbeats 4000000 in
set_option maxRecDepth 100000 in
theorem m_X6_put_0 (lau : Launch) (G : GT) (ad : Nat → Nat) (T : Nat → Int32) (n mo ver : Nat) (Hs : HT) (P : PT) (fp lp : Nat → Int32) (tv : Int32) (Rg : RT) (Tx : XT) (Rd : DT) (li k : Nat) (ke sp : Nat → Int32) (hkf : 128 ≤ k) (hkb : k < 1000000) : MV lau G (0 + 3) yX6_put cX6_put 8 none [.ref (ad 5), .int (nI li), .int (nI k)] (wC ad G (T, n, mo, ver) Hs P (fp, lp, ke, sp, tv) Rg Tx Rd) (fun u : Unit => wC ad G (T, n, mo, ver) Hs P (fp, lp, (tPut T 0 li k (ke, sp)).1, (tPut T 0 li k (ke, sp)).2, tv) Rg Tx Rd) (fun u => True) := by
  refine mv_of (by decide +kernel) (Nat.le_of_ble_eq_true rfl) ?_
  intro p e s m args below meth c A Q F hr hlk hQ
  refine v_st (w' := wC ad G (T, n, mo, ver) Hs P (fp, lp, ke, sp, tv) Rg Tx Rd) (pc' := 0) (st' := []) rfl rfl rfl [0, 1, 2] (lv' := [(0, .ref (ad 5)), (1, .int (nI li)), (2, .int (nI k))]) rfl ?_
  refine v_iload_n F dX6_put_0 2 rfl rfl ?_
  refine v_iconst (v := nI 1) F dX6_put_1 (by decide) ?_
  refine v_icmp_lt F 11 dX6_put_2 (by decide) (fun c1 => ?_) (fun c1 => ?_)
  · replace c1 := nL (a := k) (b := 1) (by omega) (by decide) c1
    omega
  · replace c1 := nLn (a := k) (b := 1) (by omega) (by decide) c1
    refine v_iload_n F dX6_put_5 2 rfl rfl ?_
    refine v_bipush (v := nI 127) F dX6_put_6 (by decide) ?_
    refine v_icmp_le F 12 dX6_put_8 (by decide) (fun c2 => ?_) (fun c2 => ?_)
    · replace c2 := nK (a := k) (b := 127) (by omega) (by decide) c2
      omega
    · replace c2 := nKn (a := k) (b := 127) (by omega) (by decide) c2
      refine v_w (w' := wC ad G (T, n, mo, ver) Hs P (fp, lp, (tPut T 0 li k (ke, sp)).1, (tPut T 0 li k (ke, sp)).2, tv) Rg Tx Rd) (congrArg (fun z_ => wC ad G (T, n, mo, ver) Hs P z_ Rg Tx Rd) (show (fp, lp, ke, sp, tv) = (fp, lp, (tPut T 0 li k (ke, sp)).1, (tPut T 0 li k (ke, sp)).2, tv) by rfl)) ?_
      exact v_vret F hr hlk hQ dX6_put_11 (()) rfl (by trivial)
set_option maxHeartbeats 4000000 in
set_option maxRecDepth 100000 in
theorem m_X6_put_step (lau : Launch) (G : GT) (ad : Nat → Nat) (T : Nat → Int32) (n mo ver : Nat) (Hs : HT) (P : PT) (fp lp : Nat → Int32) (tv : Int32) (Rg : RT) (Tx : XT) (Rd : DT) (hn : n ≤ 20) (hT : TOK T n) (hG : GEO fp lp) (f : Nat) (ih : PUTS lau G ad T n mo ver Hs P fp lp tv Rg Tx Rd f) (li k : Nat) (ke sp : Nat → Int32) (hl : li < n) (hkf : 128 ≤ k * 2 ^ (f + 1)) (hkb : k < 1000000) (hK : KOK ke n) : MV lau G (f + 1 + 3) yX6_put cX6_put 8 none [.ref (ad 5), .int (nI li), .int (nI k)] (wC ad G (T, n, mo, ver) Hs P (fp, lp, ke, sp, tv) Rg Tx Rd) (fun u : Unit => wC ad G (T, n, mo, ver) Hs P (fp, lp, (tPut T (f + 1) li k (ke, sp)).1, (tPut T (f + 1) li k (ke, sp)).2, tv) Rg Tx Rd) (fun u => True) := by
  refine mv_of (by decide +kernel) (Nat.le_of_ble_eq_true rfl) ?_
  intro p e s m args below meth c A Q F hr hlk hQ
  refine v_st (w' := wC ad G (T, n, mo, ver) Hs P (fp, lp, ke, sp, tv) Rg Tx Rd) (pc' := 0) (st' := []) rfl rfl rfl [0, 1, 2] (lv' := [(0, .ref (ad 5)), (1, .int (nI li)), (2, .int (nI k))]) rfl ?_
  refine v_iload_n F dX6_put_0 2 rfl rfl ?_
  refine v_iconst (v := nI 1) F dX6_put_1 (by decide) ?_
  refine v_icmp_lt F 11 dX6_put_2 (by decide) (fun h0 => ?_) (fun h0 => ?_)
  · replace h0 := nL (a := k) (b := 1) (by omega) (by decide) h0
    refine v_w (w' := wC ad G (T, n, mo, ver) Hs P (fp, lp, (tPut T (f + 1) li k (ke, sp)).1, (tPut T (f + 1) li k (ke, sp)).2, tv) Rg Tx Rd) (congrArg (fun z_ => wC ad G (T, n, mo, ver) Hs P z_ Rg Tx Rd) (show (fp, lp, ke, sp, tv) = (fp, lp, (tPut T (f + 1) li k (ke, sp)).1, (tPut T (f + 1) li k (ke, sp)).2, tv) by first | (rw [tP_0 (Or.inl h0)]; done) | (rw [tP_0 (Or.inr h00)]; done) | rw [tP_1 h1] | rw [tP_2 h2] | rw [tP_3 h0 h00 h1 h2 (Or.inl h3)] | rw [tP_3 h0 h00 h1 h2 (Or.inr h4)] | rw [tP_4 h0 h00 h1 h2 h3 h4 h5] | (rw [tP_5 h0 h00 h1 h2 h3 h4 hkg (by omega), tRest, if_pos hb, if_pos he]; done) | (rw [tP_5 h0 h00 h1 h2 h3 h4 hkg (by omega), tRest, if_pos hb, if_neg he, if_pos hb1]; done) | (rw [tP_5 h0 h00 h1 h2 h3 h4 hkg (by omega), tRest, if_pos hb, if_neg he, if_neg (by rw [hb1]; decide), if_pos hb2]; done) | (rw [tP_5 h0 h00 h1 h2 h3 h4 hkg (by omega), tRest, if_pos hb, if_neg he, if_neg (by rw [hb1]; decide), if_neg (by rw [hb2]; decide)]; done) | (rw [tP_5 h0 h00 h1 h2 h3 h4 hkg (by omega), tRest, if_neg (by rw [hb]; decide), if_pos he]; done) | (rw [tP_5 h0 h00 h1 h2 h3 h4 hkg (by omega), tRest, if_neg (by rw [hb]; decide), if_neg he, if_pos hb1]; done) | (rw [tP_5 h0 h00 h1 h2 h3 h4 hkg (by omega), tRest, if_neg (by rw [hb]; decide), if_neg he, if_neg (by rw [hb1]; decide), if_pos hb2]; done) | (rw [tP_5 h0 h00 h1 h2 h3 h4 hkg (by omega), tRest, if_neg (by rw [hb]; decide), if_neg he, if_neg (by rw [hb1]; decide), if_neg (by rw [hb2]; decide)]; done))) ?_
    exact v_vret F hr hlk hQ dX6_put_11 (()) rfl (by trivial)
  · replace h0 := nLn (a := k) (b := 1) (by omega) (by decide) h0
    refine v_iload_n F dX6_put_5 2 rfl rfl ?_
    refine v_bipush (v := nI 127) F dX6_put_6 (by decide) ?_
    refine v_icmp_le F 12 dX6_put_8 (by decide) (fun h00 => ?_) (fun h00 => ?_)
    · replace h00 := nK (a := k) (b := 127) (by omega) (by decide) h00
      refine v_aload_n F dX6_put_12 0 rfl rfl ?_
      refine v_get (v := .ref (ad 12)) F inlX6 (ci := 6) rfl 1 (by decide) rfl wF_RX6_9 dX6_put_13 5 rfl rfl ?_
      refine v_iload_n F dX6_put_16 2 rfl rfl ?_
      refine v_ialdN F dX6_put_17 12 rfl k rfl (by omega) (by decide) (fp k) rfl ?_
      refine v_topi (nI (gF k)) ((hG k h0 h00).1) ?_
      refine v_istore_n (lv' := [(3, .int (nI (gF k))), (0, .ref (ad 5)), (1, .int (nI li)), (2, .int (nI k))]) F dX6_put_18 3 rfl (by decide) rfl ?_
      have hgeo := geo_all k (by omega) h0
      have hkk := pk2 hkf
      refine v_aload_n F dX6_put_19 0 rfl rfl ?_
      refine v_get (v := .ref (ad 13)) F inlX6 (ci := 6) rfl 2 (by decide) rfl wF_RX6_15 dX6_put_20 5 rfl rfl ?_
      refine v_iload_n F dX6_put_23 2 rfl rfl ?_
      refine v_ialdN F dX6_put_24 13 rfl k rfl (by omega) (by decide) (lp k) rfl ?_
      refine v_topi (nI (gL k)) ((hG k h0 h00).2) ?_
      refine v_istore (lv' := [(4, .int (nI (gL k))), (3, .int (nI (gF k))), (0, .ref (ad 5)), (1, .int (nI li)), (2, .int (nI k))]) F dX6_put_25 (by decide) rfl ?_
      refine v_aload_n F dX6_put_27 0 rfl rfl ?_
      refine v_get (v := .ref (ad 1)) F inlX6 (ci := 6) rfl 0 (by decide) rfl wF_RX6_28 dX6_put_28 5 rfl rfl ?_
      refine v_iload_n F dX6_put_31 1 rfl rfl ?_
      refine v_iconst (v := nI 2) F dX6_put_32 (by decide) ?_
      refine v_cVIF F cs_RX6_64 dX6_put_33 1 (ci := 1) rfl rfl (m_X1_property lau G ad T n mo ver Hs P (fp, lp, ke, sp, tv) Rg Tx Rd li 2 (by omega) (by omega) (by omega)) (by omega) rfl rfl (Nat.le_of_ble_eq_true rfl) ⟨Nat.zero_le _, Nat.zero_le _⟩ (fun r1 u2 w3 => ?_)
      subst w3
      refine v_istore (lv' := [(5, .int (T ((li * 6) + 2))), (4, .int (nI (gL k))), (3, .int (nI (gF k))), (0, .ref (ad 5)), (1, .int (nI li)), (2, .int (nI k))]) F dX6_put_36 (by decide) rfl ?_
      refine v_aload_n F dX6_put_38 0 rfl rfl ?_
      refine v_get (v := .ref (ad 1)) F inlX6 (ci := 6) rfl 0 (by decide) rfl wF_RX6_28 dX6_put_39 5 rfl rfl ?_
      refine v_iload_n F dX6_put_42 1 rfl rfl ?_
      refine v_iconst (v := nI 3) F dX6_put_43 (by decide) ?_
      refine v_cVIF F cs_RX6_64 dX6_put_44 1 (ci := 1) rfl rfl (m_X1_property lau G ad T n mo ver Hs P (fp, lp, ke, sp, tv) Rg Tx Rd li 3 (by omega) (by omega) (by omega)) (by omega) rfl rfl (Nat.le_of_ble_eq_true rfl) ⟨Nat.zero_le _, Nat.zero_le _⟩ (fun r4 u5 w6 => ?_)
      subst w6
      refine v_istore (lv' := [(6, .int (T ((li * 6) + 3))), (5, .int (T ((li * 6) + 2))), (4, .int (nI (gL k))), (3, .int (nI (gF k))), (0, .ref (ad 5)), (1, .int (nI li)), (2, .int (nI k))]) F dX6_put_47 (by decide) rfl ?_
      refine v_iload F dX6_put_49 rfl ?_
      refine v_iload_n F dX6_put_51 3 rfl rfl ?_
      refine v_icmp_lt F 62 dX6_put_52 (by decide) (fun h1 => ?_) (fun h1 => ?_)
      · refine v_w (w' := wC ad G (T, n, mo, ver) Hs P (fp, lp, (tPut T (f + 1) li k (ke, sp)).1, (tPut T (f + 1) li k (ke, sp)).2, tv) Rg Tx Rd) (congrArg (fun z_ => wC ad G (T, n, mo, ver) Hs P z_ Rg Tx Rd) (show (fp, lp, ke, sp, tv) = (fp, lp, (tPut T (f + 1) li k (ke, sp)).1, (tPut T (f + 1) li k (ke, sp)).2, tv) by first | (rw [tP_0 (Or.inl h0)]; done) | (rw [tP_0 (Or.inr h00)]; done) | rw [tP_1 h1] | rw [tP_2 h2] | rw [tP_3 h0 h00 h1 h2 (Or.inl h3)] | rw [tP_3 h0 h00 h1 h2 (Or.inr h4)] | rw [tP_4 h0 h00 h1 h2 h3 h4 h5] | (rw [tP_5 h0 h00 h1 h2 h3 h4 hkg (by omega), tRest, if_pos hb, if_pos he]; done) | (rw [tP_5 h0 h00 h1 h2 h3 h4 hkg (by omega), tRest, if_pos hb, if_neg he, if_pos hb1]; done) | (rw [tP_5 h0 h00 h1 h2 h3 h4 hkg (by omega), tRest, if_pos hb, if_neg he, if_neg (by rw [hb1]; decide), if_pos hb2]; done) | (rw [tP_5 h0 h00 h1 h2 h3 h4 hkg (by omega), tRest, if_pos hb, if_neg he, if_neg (by rw [hb1]; decide), if_neg (by rw [hb2]; decide)]; done) | (rw [tP_5 h0 h00 h1 h2 h3 h4 hkg (by omega), tRest, if_neg (by rw [hb]; decide), if_pos he]; done) | (rw [tP_5 h0 h00 h1 h2 h3 h4 hkg (by omega), tRest, if_neg (by rw [hb]; decide), if_neg he, if_pos hb1]; done) | (rw [tP_5 h0 h00 h1 h2 h3 h4 hkg (by omega), tRest, if_neg (by rw [hb]; decide), if_neg he, if_neg (by rw [hb1]; decide), if_pos hb2]; done) | (rw [tP_5 h0 h00 h1 h2 h3 h4 hkg (by omega), tRest, if_neg (by rw [hb]; decide), if_neg he, if_neg (by rw [hb1]; decide), if_neg (by rw [hb2]; decide)]; done))) ?_
        exact v_vret F hr hlk hQ dX6_put_62 (()) rfl (by trivial)
      · refine v_iload F dX6_put_55 rfl ?_
        refine v_iload F dX6_put_57 rfl ?_
        refine v_icmp_le F 63 dX6_put_59 (by decide) (fun h2 => ?_) (fun h2 => ?_)
        · refine v_iload F dX6_put_63 rfl ?_
          refine v_iload_n F dX6_put_65 3 rfl rfl ?_
          refine v_icmp_gt F 76 dX6_put_66 (by decide) (fun h3 => ?_) (fun h3 => ?_)
          · refine v_aload_n F dX6_put_76 0 rfl rfl ?_
            refine v_iload_n F dX6_put_77 1 rfl rfl ?_
            refine v_iconst (v := nI 2) F dX6_put_78 (by decide) ?_
            refine v_iload_n F dX6_put_79 2 rfl rfl ?_
            refine v_imul F dX6_put_80 ?_
            refine v_topi (nI (2 * k)) (pk_mul 2 k) ?_
            refine v_cVVF F cs_RX6_60 dX6_put_81 5 (ci := 6) rfl rfl (ih li (2 * k) ke sp (by omega) hkk.1 (by omega) hK) (by omega) rfl rfl (Nat.le_of_ble_eq_true rfl) ⟨Nat.zero_le _, Nat.zero_le _⟩ (fun u8 w9 => ?_)
            refine v_aload_n F dX6_put_84 0 rfl rfl ?_
            refine v_iload_n F dX6_put_85 1 rfl rfl ?_
            refine v_iconst (v := nI 2) F dX6_put_86 (by decide) ?_
            refine v_iload_n F dX6_put_87 2 rfl rfl ?_
            refine v_imul F dX6_put_88 ?_
            refine v_topi (nI (2 * k)) (pk_mul 2 k) ?_
            refine v_iconst (v := nI 1) F dX6_put_89 (by decide) ?_
            refine v_iadd F dX6_put_90 ?_
            refine v_topi (nI ((2 * k) + 1)) (nI_add (2 * k) 1) ?_
            refine v_cVVF F cs_RX6_60 dX6_put_91 5 (ci := 6) rfl rfl (ih li ((2 * k) + 1) ((tPut T f li (2 * k) (ke, sp)).1) ((tPut T f li (2 * k) (ke, sp)).2) (by omega) hkk.2 (by omega) (tPut_ok hn f li (2 * k) (ke, sp) hl hK)) (by omega) rfl rfl (Nat.le_of_ble_eq_true rfl) ⟨Nat.zero_le _, Nat.zero_le _⟩ (fun u11 w12 => ?_)
            refine v_w (w' := wC ad G (T, n, mo, ver) Hs P (fp, lp, (tPut T (f + 1) li k (ke, sp)).1, (tPut T (f + 1) li k (ke, sp)).2, tv) Rg Tx Rd) (congrArg (fun z_ => wC ad G (T, n, mo, ver) Hs P z_ Rg Tx Rd) (show (fp, lp, (tPut T f li ((2 * k) + 1) (((tPut T f li (2 * k) (ke, sp)).1), ((tPut T f li (2 * k) (ke, sp)).2))).1, (tPut T f li ((2 * k) + 1) (((tPut T f li (2 * k) (ke, sp)).1), ((tPut T f li (2 * k) (ke, sp)).2))).2, tv) = (fp, lp, (tPut T (f + 1) li k (ke, sp)).1, (tPut T (f + 1) li k (ke, sp)).2, tv) by first | (rw [tP_0 (Or.inl h0)]; done) | (rw [tP_0 (Or.inr h00)]; done) | rw [tP_1 h1] | rw [tP_2 h2] | rw [tP_3 h0 h00 h1 h2 (Or.inl h3)] | rw [tP_3 h0 h00 h1 h2 (Or.inr h4)] | rw [tP_4 h0 h00 h1 h2 h3 h4 h5] | (rw [tP_5 h0 h00 h1 h2 h3 h4 hkg (by omega), tRest, if_pos hb, if_pos he]; done) | (rw [tP_5 h0 h00 h1 h2 h3 h4 hkg (by omega), tRest, if_pos hb, if_neg he, if_pos hb1]; done) | (rw [tP_5 h0 h00 h1 h2 h3 h4 hkg (by omega), tRest, if_pos hb, if_neg he, if_neg (by rw [hb1]; decide), if_pos hb2]; done) | (rw [tP_5 h0 h00 h1 h2 h3 h4 hkg (by omega), tRest, if_pos hb, if_neg he, if_neg (by rw [hb1]; decide), if_neg (by rw [hb2]; decide)]; done) | (rw [tP_5 h0 h00 h1 h2 h3 h4 hkg (by omega), tRest, if_neg (by rw [hb]; decide), if_pos he]; done) | (rw [tP_5 h0 h00 h1 h2 h3 h4 hkg (by omega), tRest, if_neg (by rw [hb]; decide), if_neg he, if_pos hb1]; done) | (rw [tP_5 h0 h00 h1 h2 h3 h4 hkg (by omega), tRest, if_neg (by rw [hb]; decide), if_neg he, if_neg (by rw [hb1]; decide), if_pos hb2]; done) | (rw [tP_5 h0 h00 h1 h2 h3 h4 hkg (by omega), tRest, if_neg (by rw [hb]; decide), if_neg he, if_neg (by rw [hb1]; decide), if_neg (by rw [hb2]; decide)]; done))) ?_
            exact v_vret F hr hlk hQ dX6_put_94 (()) rfl (by trivial)
          · refine v_iload F dX6_put_69 rfl ?_
            refine v_iload F dX6_put_71 rfl ?_
            refine v_icmp_ge F 95 dX6_put_73 (by decide) (fun h4 => ?_) (fun h4 => ?_)
            · refine v_aload_n F dX6_put_95 0 rfl rfl ?_
              refine v_get (v := .ref (ad 15)) F inlX6 (ci := 6) rfl 4 (by decide) rfl wF_RX6_21 dX6_put_96 5 rfl rfl ?_
              refine v_iload_n F dX6_put_99 2 rfl rfl ?_
              refine v_dup2_11 F dX6_put_100 rfl rfl ?_
              refine v_ialdN F dX6_put_101 15 rfl k rfl (by omega) (by decide) (sp k) rfl ?_
              refine v_iconst (v := nI 1) F dX6_put_102 (by decide) ?_
              refine v_iadd F dX6_put_103 ?_
              refine v_iastN F dX6_put_104 15 rfl k rfl (by omega) (by decide) (wC ad G (T, n, mo, ver) Hs P (fp, lp, ke, upd sp k ((sp k) + nI 1), tv) Rg Tx Rd) rfl ?_
              refine v_aload_n F dX6_put_105 0 rfl rfl ?_
              refine v_get (v := .ref (ad 14)) F inlX6 (ci := 6) rfl 3 (by decide) rfl wF_RX6_18 dX6_put_106 5 rfl rfl ?_
              refine v_iload_n F dX6_put_109 2 rfl rfl ?_
              refine v_ialdN F dX6_put_110 14 rfl k rfl (by omega) (by decide) (ke k) rfl ?_
              refine v_iconst (v := (-1)) F dX6_put_111 (by decide) ?_
              refine v_icmp_ne F 123 dX6_put_112 (by decide) (fun h5 => ?_) (fun h5 => ?_)
              · obtain ⟨g, hg, hkg⟩ := KOK_at hK (by omega) h5
                refine v_iload_n F dX6_put_123 1 rfl rfl ?_
                refine v_istore (lv' := [(7, .int (nI li)), (6, .int (T ((li * 6) + 3))), (5, .int (T ((li * 6) + 2))), (4, .int (nI (gL k))), (3, .int (nI (gF k))), (0, .ref (ad 5)), (1, .int (nI li)), (2, .int (nI k))]) F dX6_put_124 (by decide) rfl ?_
                refine v_aload_n F dX6_put_126 0 rfl rfl ?_
                refine v_get (v := .ref (ad 1)) F inlX6 (ci := 6) rfl 0 (by decide) rfl wF_RX6_28 dX6_put_127 5 rfl rfl ?_
                refine v_iload_n F dX6_put_130 1 rfl rfl ?_
                refine v_aload_n F dX6_put_131 0 rfl rfl ?_
                refine v_get (v := .ref (ad 14)) F inlX6 (ci := 6) rfl 3 (by decide) rfl wF_RX6_18 dX6_put_132 5 rfl rfl ?_
                refine v_iload_n F dX6_put_135 2 rfl rfl ?_
                refine v_ialdN F dX6_put_136 14 rfl k rfl (by omega) (by decide) (ke k) rfl ?_
                refine v_topi (nI g) (hkg) ?_
                refine v_iload_n F dX6_put_137 3 rfl rfl ?_
                refine v_iload F dX6_put_138 rfl ?_
                refine v_iadd F dX6_put_140 ?_
                refine v_topi (nI ((gF k) + (gL k))) (nI_add (gF k) (gL k)) ?_
                refine v_iconst (v := nI 2) F dX6_put_141 (by decide) ?_
                refine v_idiv F dX6_put_142 (by decide) ?_
                refine v_topi (nI (((gF k) + (gL k)) / 2)) (pk_div (by omega) (by decide) (by decide)) ?_
                refine v_cVIF F cs_RX6_68 dX6_put_143 1 (ci := 1) rfl rfl (m_X1_isLower lau G ad T n mo ver Hs P (fp, lp, ke, upd sp k ((sp k) + nI 1), tv) Rg Tx Rd li g (((gF k) + (gL k)) / 2) (by omega) (by omega) (by omega) hT (by omega)) (by omega) rfl rfl (Nat.le_of_ble_eq_true rfl) ⟨Nat.zero_le _, Nat.zero_le _⟩ (fun r13 u14 w15 => ?_)
                subst w15
                refine v_if_eq F 164 dX6_put_146 (by decide) (fun hb => ?_) (fun hb => ?_)
                · replace hb := bI_f hb
                  refine v_iload_n F dX6_put_164 3 rfl rfl ?_
                  refine v_iload F dX6_put_165 rfl ?_
                  refine v_icmp_ne F 171 dX6_put_167 (by decide) (fun he => ?_) (fun he => ?_)
                  · replace he := nEn (a := (gF k)) (b := (gL k)) (by omega) (by omega) he
                    refine v_aload_n F dX6_put_171 0 rfl rfl ?_
                    refine v_get (v := .ref (ad 1)) F inlX6 (ci := 6) rfl 0 (by decide) rfl wF_RX6_28 dX6_put_172 5 rfl rfl ?_
                    refine v_iload F dX6_put_175 rfl ?_
                    refine v_aload_n F dX6_put_177 0 rfl rfl ?_
                    refine v_get (v := .ref (ad 14)) F inlX6 (ci := 6) rfl 3 (by decide) rfl wF_RX6_18 dX6_put_178 5 rfl rfl ?_
                    refine v_iload_n F dX6_put_181 2 rfl rfl ?_
                    refine v_ialdN F dX6_put_182 14 rfl k rfl (by omega) (by decide) (ke k) rfl ?_
                    refine v_topi (nI g) (hkg) ?_
                    refine v_iload_n F dX6_put_183 3 rfl rfl ?_
                    refine v_cVIF F cs_RX6_68 dX6_put_184 1 (ci := 1) rfl rfl (m_X1_isLower lau G ad T n mo ver Hs P (fp, lp, ke, upd sp k ((sp k) + nI 1), tv) Rg Tx Rd li g (gF k) (by omega) (by omega) (by omega) hT (by omega)) (by omega) rfl rfl (Nat.le_of_ble_eq_true rfl) ⟨Nat.zero_le _, Nat.zero_le _⟩ (fun r16 u17 w18 => ?_)
                    subst w18
                    refine v_if_eq F 202 dX6_put_187 (by decide) (fun hb1 => ?_) (fun hb1 => ?_)
                    · replace hb1 := bI_f hb1
                      refine v_aload_n F dX6_put_202 0 rfl rfl ?_
                      refine v_get (v := .ref (ad 1)) F inlX6 (ci := 6) rfl 0 (by decide) rfl wF_RX6_28 dX6_put_203 5 rfl rfl ?_
                      refine v_iload F dX6_put_206 rfl ?_
                      refine v_aload_n F dX6_put_208 0 rfl rfl ?_
                      refine v_get (v := .ref (ad 14)) F inlX6 (ci := 6) rfl 3 (by decide) rfl wF_RX6_18 dX6_put_209 5 rfl rfl ?_
                      refine v_iload_n F dX6_put_212 2 rfl rfl ?_
                      refine v_ialdN F dX6_put_213 14 rfl k rfl (by omega) (by decide) (ke k) rfl ?_
                      refine v_topi (nI g) (hkg) ?_
                      refine v_iload F dX6_put_214 rfl ?_
                      refine v_cVIF F cs_RX6_68 dX6_put_216 1 (ci := 1) rfl rfl (m_X1_isLower lau G ad T n mo ver Hs P (fp, lp, ke, upd sp k ((sp k) + nI 1), tv) Rg Tx Rd li g (gL k) (by omega) (by omega) (by omega) hT (by omega)) (by omega) rfl rfl (Nat.le_of_ble_eq_true rfl) ⟨Nat.zero_le _, Nat.zero_le _⟩ (fun r19 u20 w21 => ?_)
                      subst w21
                      refine v_if_eq F 233 dX6_put_219 (by decide) (fun hb2 => ?_) (fun hb2 => ?_)
                      · replace hb2 := bI_f hb2
                        refine v_w (w' := wC ad G (T, n, mo, ver) Hs P (fp, lp, (tPut T (f + 1) li k (ke, sp)).1, (tPut T (f + 1) li k (ke, sp)).2, tv) Rg Tx Rd) (congrArg (fun z_ => wC ad G (T, n, mo, ver) Hs P z_ Rg Tx Rd) (show (fp, lp, ke, upd sp k ((sp k) + nI 1), tv) = (fp, lp, (tPut T (f + 1) li k (ke, sp)).1, (tPut T (f + 1) li k (ke, sp)).2, tv) by first | (rw [tP_0 (Or.inl h0)]; done) | (rw [tP_0 (Or.inr h00)]; done) | rw [tP_1 h1] | rw [tP_2 h2] | rw [tP_3 h0 h00 h1 h2 (Or.inl h3)] | rw [tP_3 h0 h00 h1 h2 (Or.inr h4)] | rw [tP_4 h0 h00 h1 h2 h3 h4 h5] | (rw [tP_5 h0 h00 h1 h2 h3 h4 hkg (by omega), tRest, if_pos hb, if_pos he]; done) | (rw [tP_5 h0 h00 h1 h2 h3 h4 hkg (by omega), tRest, if_pos hb, if_neg he, if_pos hb1]; done) | (rw [tP_5 h0 h00 h1 h2 h3 h4 hkg (by omega), tRest, if_pos hb, if_neg he, if_neg (by rw [hb1]; decide), if_pos hb2]; done) | (rw [tP_5 h0 h00 h1 h2 h3 h4 hkg (by omega), tRest, if_pos hb, if_neg he, if_neg (by rw [hb1]; decide), if_neg (by rw [hb2]; decide)]; done) | (rw [tP_5 h0 h00 h1 h2 h3 h4 hkg (by omega), tRest, if_neg (by rw [hb]; decide), if_pos he]; done) | (rw [tP_5 h0 h00 h1 h2 h3 h4 hkg (by omega), tRest, if_neg (by rw [hb]; decide), if_neg he, if_pos hb1]; done) | (rw [tP_5 h0 h00 h1 h2 h3 h4 hkg (by omega), tRest, if_neg (by rw [hb]; decide), if_neg he, if_neg (by rw [hb1]; decide), if_pos hb2]; done) | (rw [tP_5 h0 h00 h1 h2 h3 h4 hkg (by omega), tRest, if_neg (by rw [hb]; decide), if_neg he, if_neg (by rw [hb1]; decide), if_neg (by rw [hb2]; decide)]; done))) ?_
                        exact v_vret F hr hlk hQ dX6_put_233 (()) rfl (by trivial)
                      · replace hb2 := bI_t hb2
                        refine v_aload_n F dX6_put_222 0 rfl rfl ?_
                        refine v_iload F dX6_put_223 rfl ?_
                        refine v_iconst (v := nI 2) F dX6_put_225 (by decide) ?_
                        refine v_iload_n F dX6_put_226 2 rfl rfl ?_
                        refine v_imul F dX6_put_227 ?_
                        refine v_topi (nI (2 * k)) (pk_mul 2 k) ?_
                        refine v_iconst (v := nI 1) F dX6_put_228 (by decide) ?_
                        refine v_iadd F dX6_put_229 ?_
                        refine v_topi (nI ((2 * k) + 1)) (nI_add (2 * k) 1) ?_
                        refine v_cVVF F cs_RX6_60 dX6_put_230 5 (ci := 6) rfl rfl (ih li ((2 * k) + 1) ke (upd sp k ((sp k) + nI 1)) (by omega) hkk.2 (by omega) (by first | exact hK | exact KOK_upd hK hl)) (by omega) rfl rfl (Nat.le_of_ble_eq_true rfl) ⟨Nat.zero_le _, Nat.zero_le _⟩ (fun u23 w24 => ?_)
                        refine v_w (w' := wC ad G (T, n, mo, ver) Hs P (fp, lp, (tPut T (f + 1) li k (ke, sp)).1, (tPut T (f + 1) li k (ke, sp)).2, tv) Rg Tx Rd) (congrArg (fun z_ => wC ad G (T, n, mo, ver) Hs P z_ Rg Tx Rd) (show (fp, lp, (tPut T f li ((2 * k) + 1) (ke, (upd sp k ((sp k) + nI 1)))).1, (tPut T f li ((2 * k) + 1) (ke, (upd sp k ((sp k) + nI 1)))).2, tv) = (fp, lp, (tPut T (f + 1) li k (ke, sp)).1, (tPut T (f + 1) li k (ke, sp)).2, tv) by first | (rw [tP_0 (Or.inl h0)]; done) | (rw [tP_0 (Or.inr h00)]; done) | rw [tP_1 h1] | rw [tP_2 h2] | rw [tP_3 h0 h00 h1 h2 (Or.inl h3)] | rw [tP_3 h0 h00 h1 h2 (Or.inr h4)] | rw [tP_4 h0 h00 h1 h2 h3 h4 h5] | (rw [tP_5 h0 h00 h1 h2 h3 h4 hkg (by omega), tRest, if_pos hb, if_pos he]; done) | (rw [tP_5 h0 h00 h1 h2 h3 h4 hkg (by omega), tRest, if_pos hb, if_neg he, if_pos hb1]; done) | (rw [tP_5 h0 h00 h1 h2 h3 h4 hkg (by omega), tRest, if_pos hb, if_neg he, if_neg (by rw [hb1]; decide), if_pos hb2]; done) | (rw [tP_5 h0 h00 h1 h2 h3 h4 hkg (by omega), tRest, if_pos hb, if_neg he, if_neg (by rw [hb1]; decide), if_neg (by rw [hb2]; decide)]; done) | (rw [tP_5 h0 h00 h1 h2 h3 h4 hkg (by omega), tRest, if_neg (by rw [hb]; decide), if_pos he]; done) | (rw [tP_5 h0 h00 h1 h2 h3 h4 hkg (by omega), tRest, if_neg (by rw [hb]; decide), if_neg he, if_pos hb1]; done) | (rw [tP_5 h0 h00 h1 h2 h3 h4 hkg (by omega), tRest, if_neg (by rw [hb]; decide), if_neg he, if_neg (by rw [hb1]; decide), if_pos hb2]; done) | (rw [tP_5 h0 h00 h1 h2 h3 h4 hkg (by omega), tRest, if_neg (by rw [hb]; decide), if_neg he, if_neg (by rw [hb1]; decide), if_neg (by rw [hb2]; decide)]; done))) ?_
                        exact v_vret F hr hlk hQ dX6_put_233 (()) rfl (by trivial)
                    · replace hb1 := bI_t hb1
                      refine v_aload_n F dX6_put_190 0 rfl rfl ?_
                      refine v_iload F dX6_put_191 rfl ?_
                      refine v_iconst (v := nI 2) F dX6_put_193 (by decide) ?_
                      refine v_iload_n F dX6_put_194 2 rfl rfl ?_
                      refine v_imul F dX6_put_195 ?_
                      refine v_topi (nI (2 * k)) (pk_mul 2 k) ?_
                      refine v_cVVF F cs_RX6_60 dX6_put_196 5 (ci := 6) rfl rfl (ih li (2 * k) ke (upd sp k ((sp k) + nI 1)) (by omega) hkk.1 (by omega) (by first | exact hK | exact KOK_upd hK hl)) (by omega) rfl rfl (Nat.le_of_ble_eq_true rfl) ⟨Nat.zero_le _, Nat.zero_le _⟩ (fun u26 w27 => ?_)
                      refine v_goto F 233 dX6_put_199 (by decide) ?_
                      refine v_w (w' := wC ad G (T, n, mo, ver) Hs P (fp, lp, (tPut T (f + 1) li k (ke, sp)).1, (tPut T (f + 1) li k (ke, sp)).2, tv) Rg Tx Rd) (congrArg (fun z_ => wC ad G (T, n, mo, ver) Hs P z_ Rg Tx Rd) (show (fp, lp, (tPut T f li (2 * k) (ke, (upd sp k ((sp k) + nI 1)))).1, (tPut T f li (2 * k) (ke, (upd sp k ((sp k) + nI 1)))).2, tv) = (fp, lp, (tPut T (f + 1) li k (ke, sp)).1, (tPut T (f + 1) li k (ke, sp)).2, tv) by first | (rw [tP_0 (Or.inl h0)]; done) | (rw [tP_0 (Or.inr h00)]; done) | rw [tP_1 h1] | rw [tP_2 h2] | rw [tP_3 h0 h00 h1 h2 (Or.inl h3)] | rw [tP_3 h0 h00 h1 h2 (Or.inr h4)] | rw [tP_4 h0 h00 h1 h2 h3 h4 h5] | (rw [tP_5 h0 h00 h1 h2 h3 h4 hkg (by omega), tRest, if_pos hb, if_pos he]; done) | (rw [tP_5 h0 h00 h1 h2 h3 h4 hkg (by omega), tRest, if_pos hb, if_neg he, if_pos hb1]; done) | (rw [tP_5 h0 h00 h1 h2 h3 h4 hkg (by omega), tRest, if_pos hb, if_neg he, if_neg (by rw [hb1]; decide), if_pos hb2]; done) | (rw [tP_5 h0 h00 h1 h2 h3 h4 hkg (by omega), tRest, if_pos hb, if_neg he, if_neg (by rw [hb1]; decide), if_neg (by rw [hb2]; decide)]; done) | (rw [tP_5 h0 h00 h1 h2 h3 h4 hkg (by omega), tRest, if_neg (by rw [hb]; decide), if_pos he]; done) | (rw [tP_5 h0 h00 h1 h2 h3 h4 hkg (by omega), tRest, if_neg (by rw [hb]; decide), if_neg he, if_pos hb1]; done) | (rw [tP_5 h0 h00 h1 h2 h3 h4 hkg (by omega), tRest, if_neg (by rw [hb]; decide), if_neg he, if_neg (by rw [hb1]; decide), if_pos hb2]; done) | (rw [tP_5 h0 h00 h1 h2 h3 h4 hkg (by omega), tRest, if_neg (by rw [hb]; decide), if_neg he, if_neg (by rw [hb1]; decide), if_neg (by rw [hb2]; decide)]; done))) ?_
                      exact v_vret F hr hlk hQ dX6_put_233 (()) rfl (by trivial)
                  · replace he := nE (a := (gF k)) (b := (gL k)) (by omega) (by omega) he
                    refine v_w (w' := wC ad G (T, n, mo, ver) Hs P (fp, lp, (tPut T (f + 1) li k (ke, sp)).1, (tPut T (f + 1) li k (ke, sp)).2, tv) Rg Tx Rd) (congrArg (fun z_ => wC ad G (T, n, mo, ver) Hs P z_ Rg Tx Rd) (show (fp, lp, ke, upd sp k ((sp k) + nI 1), tv) = (fp, lp, (tPut T (f + 1) li k (ke, sp)).1, (tPut T (f + 1) li k (ke, sp)).2, tv) by first | (rw [tP_0 (Or.inl h0)]; done) | (rw [tP_0 (Or.inr h00)]; done) | rw [tP_1 h1] | rw [tP_2 h2] | rw [tP_3 h0 h00 h1 h2 (Or.inl h3)] | rw [tP_3 h0 h00 h1 h2 (Or.inr h4)] | rw [tP_4 h0 h00 h1 h2 h3 h4 h5] | (rw [tP_5 h0 h00 h1 h2 h3 h4 hkg (by omega), tRest, if_pos hb, if_pos he]; done) | (rw [tP_5 h0 h00 h1 h2 h3 h4 hkg (by omega), tRest, if_pos hb, if_neg he, if_pos hb1]; done) | (rw [tP_5 h0 h00 h1 h2 h3 h4 hkg (by omega), tRest, if_pos hb, if_neg he, if_neg (by rw [hb1]; decide), if_pos hb2]; done) | (rw [tP_5 h0 h00 h1 h2 h3 h4 hkg (by omega), tRest, if_pos hb, if_neg he, if_neg (by rw [hb1]; decide), if_neg (by rw [hb2]; decide)]; done) | (rw [tP_5 h0 h00 h1 h2 h3 h4 hkg (by omega), tRest, if_neg (by rw [hb]; decide), if_pos he]; done) | (rw [tP_5 h0 h00 h1 h2 h3 h4 hkg (by omega), tRest, if_neg (by rw [hb]; decide), if_neg he, if_pos hb1]; done) | (rw [tP_5 h0 h00 h1 h2 h3 h4 hkg (by omega), tRest, if_neg (by rw [hb]; decide), if_neg he, if_neg (by rw [hb1]; decide), if_pos hb2]; done) | (rw [tP_5 h0 h00 h1 h2 h3 h4 hkg (by omega), tRest, if_neg (by rw [hb]; decide), if_neg he, if_neg (by rw [hb1]; decide), if_neg (by rw [hb2]; decide)]; done))) ?_
                    exact v_vret F hr hlk hQ dX6_put_170 (()) rfl (by trivial)
                · replace hb := bI_t hb
                  refine v_aload_n F dX6_put_149 0 rfl rfl ?_
                  refine v_get (v := .ref (ad 14)) F inlX6 (ci := 6) rfl 3 (by decide) rfl wF_RX6_18 dX6_put_150 5 rfl rfl ?_
                  refine v_iload_n F dX6_put_153 2 rfl rfl ?_
                  refine v_ialdN F dX6_put_154 14 rfl k rfl (by omega) (by decide) (ke k) rfl ?_
                  refine v_topi (nI g) (hkg) ?_
                  refine v_istore (lv' := [(7, .int (nI g)), (6, .int (T ((li * 6) + 3))), (5, .int (T ((li * 6) + 2))), (4, .int (nI (gL k))), (3, .int (nI (gF k))), (0, .ref (ad 5)), (1, .int (nI li)), (2, .int (nI k))]) F dX6_put_155 (by decide) rfl ?_
                  refine v_aload_n F dX6_put_157 0 rfl rfl ?_
                  refine v_get (v := .ref (ad 14)) F inlX6 (ci := 6) rfl 3 (by decide) rfl wF_RX6_18 dX6_put_158 5 rfl rfl ?_
                  refine v_iload_n F dX6_put_161 2 rfl rfl ?_
                  refine v_iload_n F dX6_put_162 1 rfl rfl ?_
                  refine v_iastN F dX6_put_163 14 rfl k rfl (by omega) (by decide) (wC ad G (T, n, mo, ver) Hs P (fp, lp, upd ke k (nI li), upd sp k ((sp k) + nI 1), tv) Rg Tx Rd) rfl ?_
                  refine v_iload_n F dX6_put_164 3 rfl rfl ?_
                  refine v_iload F dX6_put_165 rfl ?_
                  refine v_icmp_ne F 171 dX6_put_167 (by decide) (fun he => ?_) (fun he => ?_)
                  · replace he := nEn (a := (gF k)) (b := (gL k)) (by omega) (by omega) he
                    refine v_aload_n F dX6_put_171 0 rfl rfl ?_
                    refine v_get (v := .ref (ad 1)) F inlX6 (ci := 6) rfl 0 (by decide) rfl wF_RX6_28 dX6_put_172 5 rfl rfl ?_
                    refine v_iload F dX6_put_175 rfl ?_
                    refine v_aload_n F dX6_put_177 0 rfl rfl ?_
                    refine v_get (v := .ref (ad 14)) F inlX6 (ci := 6) rfl 3 (by decide) rfl wF_RX6_18 dX6_put_178 5 rfl rfl ?_
                    refine v_iload_n F dX6_put_181 2 rfl rfl ?_
                    refine v_ialdN F dX6_put_182 14 rfl k rfl (by omega) (by decide) ((upd ke k (nI li)) k) rfl ?_
                    refine v_topi (nI li) (upd_s) ?_
                    refine v_iload_n F dX6_put_183 3 rfl rfl ?_
                    refine v_cVIF F cs_RX6_68 dX6_put_184 1 (ci := 1) rfl rfl (m_X1_isLower lau G ad T n mo ver Hs P (fp, lp, upd ke k (nI li), upd sp k ((sp k) + nI 1), tv) Rg Tx Rd g li (gF k) (by omega) (by omega) (by omega) hT (by omega)) (by omega) rfl rfl (Nat.le_of_ble_eq_true rfl) ⟨Nat.zero_le _, Nat.zero_le _⟩ (fun r28 u29 w30 => ?_)
                    subst w30
                    refine v_if_eq F 202 dX6_put_187 (by decide) (fun hb1 => ?_) (fun hb1 => ?_)
                    · replace hb1 := bI_f hb1
                      refine v_aload_n F dX6_put_202 0 rfl rfl ?_
                      refine v_get (v := .ref (ad 1)) F inlX6 (ci := 6) rfl 0 (by decide) rfl wF_RX6_28 dX6_put_203 5 rfl rfl ?_
                      refine v_iload F dX6_put_206 rfl ?_
                      refine v_aload_n F dX6_put_208 0 rfl rfl ?_
                      refine v_get (v := .ref (ad 14)) F inlX6 (ci := 6) rfl 3 (by decide) rfl wF_RX6_18 dX6_put_209 5 rfl rfl ?_
                      refine v_iload_n F dX6_put_212 2 rfl rfl ?_
                      refine v_ialdN F dX6_put_213 14 rfl k rfl (by omega) (by decide) ((upd ke k (nI li)) k) rfl ?_
                      refine v_topi (nI li) (upd_s) ?_
                      refine v_iload F dX6_put_214 rfl ?_
                      refine v_cVIF F cs_RX6_68 dX6_put_216 1 (ci := 1) rfl rfl (m_X1_isLower lau G ad T n mo ver Hs P (fp, lp, upd ke k (nI li), upd sp k ((sp k) + nI 1), tv) Rg Tx Rd g li (gL k) (by omega) (by omega) (by omega) hT (by omega)) (by omega) rfl rfl (Nat.le_of_ble_eq_true rfl) ⟨Nat.zero_le _, Nat.zero_le _⟩ (fun r31 u32 w33 => ?_)
                      subst w33
                      refine v_if_eq F 233 dX6_put_219 (by decide) (fun hb2 => ?_) (fun hb2 => ?_)
                      · replace hb2 := bI_f hb2
                        refine v_w (w' := wC ad G (T, n, mo, ver) Hs P (fp, lp, (tPut T (f + 1) li k (ke, sp)).1, (tPut T (f + 1) li k (ke, sp)).2, tv) Rg Tx Rd) (congrArg (fun z_ => wC ad G (T, n, mo, ver) Hs P z_ Rg Tx Rd) (show (fp, lp, upd ke k (nI li), upd sp k ((sp k) + nI 1), tv) = (fp, lp, (tPut T (f + 1) li k (ke, sp)).1, (tPut T (f + 1) li k (ke, sp)).2, tv) by first | (rw [tP_0 (Or.inl h0)]; done) | (rw [tP_0 (Or.inr h00)]; done) | rw [tP_1 h1] | rw [tP_2 h2] | rw [tP_3 h0 h00 h1 h2 (Or.inl h3)] | rw [tP_3 h0 h00 h1 h2 (Or.inr h4)] | rw [tP_4 h0 h00 h1 h2 h3 h4 h5] | (rw [tP_5 h0 h00 h1 h2 h3 h4 hkg (by omega), tRest, if_pos hb, if_pos he]; done) | (rw [tP_5 h0 h00 h1 h2 h3 h4 hkg (by omega), tRest, if_pos hb, if_neg he, if_pos hb1]; done) | (rw [tP_5 h0 h00 h1 h2 h3 h4 hkg (by omega), tRest, if_pos hb, if_neg he, if_neg (by rw [hb1]; decide), if_pos hb2]; done) | (rw [tP_5 h0 h00 h1 h2 h3 h4 hkg (by omega), tRest, if_pos hb, if_neg he, if_neg (by rw [hb1]; decide), if_neg (by rw [hb2]; decide)]; done) | (rw [tP_5 h0 h00 h1 h2 h3 h4 hkg (by omega), tRest, if_neg (by rw [hb]; decide), if_pos he]; done) | (rw [tP_5 h0 h00 h1 h2 h3 h4 hkg (by omega), tRest, if_neg (by rw [hb]; decide), if_neg he, if_pos hb1]; done) | (rw [tP_5 h0 h00 h1 h2 h3 h4 hkg (by omega), tRest, if_neg (by rw [hb]; decide), if_neg he, if_neg (by rw [hb1]; decide), if_pos hb2]; done) | (rw [tP_5 h0 h00 h1 h2 h3 h4 hkg (by omega), tRest, if_neg (by rw [hb]; decide), if_neg he, if_neg (by rw [hb1]; decide), if_neg (by rw [hb2]; decide)]; done))) ?_
                        exact v_vret F hr hlk hQ dX6_put_233 (()) rfl (by trivial)
                      · replace hb2 := bI_t hb2
                        refine v_aload_n F dX6_put_222 0 rfl rfl ?_
                        refine v_iload F dX6_put_223 rfl ?_
                        refine v_iconst (v := nI 2) F dX6_put_225 (by decide) ?_
                        refine v_iload_n F dX6_put_226 2 rfl rfl ?_
                        refine v_imul F dX6_put_227 ?_
                        refine v_topi (nI (2 * k)) (pk_mul 2 k) ?_
                        refine v_iconst (v := nI 1) F dX6_put_228 (by decide) ?_
                        refine v_iadd F dX6_put_229 ?_
                        refine v_topi (nI ((2 * k) + 1)) (nI_add (2 * k) 1) ?_
                        refine v_cVVF F cs_RX6_60 dX6_put_230 5 (ci := 6) rfl rfl (ih g ((2 * k) + 1) (upd ke k (nI li)) (upd sp k ((sp k) + nI 1)) (by omega) hkk.2 (by omega) (by first | exact hK | exact KOK_upd hK hl)) (by omega) rfl rfl (Nat.le_of_ble_eq_true rfl) ⟨Nat.zero_le _, Nat.zero_le _⟩ (fun u35 w36 => ?_)
                        refine v_w (w' := wC ad G (T, n, mo, ver) Hs P (fp, lp, (tPut T (f + 1) li k (ke, sp)).1, (tPut T (f + 1) li k (ke, sp)).2, tv) Rg Tx Rd) (congrArg (fun z_ => wC ad G (T, n, mo, ver) Hs P z_ Rg Tx Rd) (show (fp, lp, (tPut T f g ((2 * k) + 1) ((upd ke k (nI li)), (upd sp k ((sp k) + nI 1)))).1, (tPut T f g ((2 * k) + 1) ((upd ke k (nI li)), (upd sp k ((sp k) + nI 1)))).2, tv) = (fp, lp, (tPut T (f + 1) li k (ke, sp)).1, (tPut T (f + 1) li k (ke, sp)).2, tv) by first | (rw [tP_0 (Or.inl h0)]; done) | (rw [tP_0 (Or.inr h00)]; done) | rw [tP_1 h1] | rw [tP_2 h2] | rw [tP_3 h0 h00 h1 h2 (Or.inl h3)] | rw [tP_3 h0 h00 h1 h2 (Or.inr h4)] | rw [tP_4 h0 h00 h1 h2 h3 h4 h5] | (rw [tP_5 h0 h00 h1 h2 h3 h4 hkg (by omega), tRest, if_pos hb, if_pos he]; done) | (rw [tP_5 h0 h00 h1 h2 h3 h4 hkg (by omega), tRest, if_pos hb, if_neg he, if_pos hb1]; done) | (rw [tP_5 h0 h00 h1 h2 h3 h4 hkg (by omega), tRest, if_pos hb, if_neg he, if_neg (by rw [hb1]; decide), if_pos hb2]; done) | (rw [tP_5 h0 h00 h1 h2 h3 h4 hkg (by omega), tRest, if_pos hb, if_neg he, if_neg (by rw [hb1]; decide), if_neg (by rw [hb2]; decide)]; done) | (rw [tP_5 h0 h00 h1 h2 h3 h4 hkg (by omega), tRest, if_neg (by rw [hb]; decide), if_pos he]; done) | (rw [tP_5 h0 h00 h1 h2 h3 h4 hkg (by omega), tRest, if_neg (by rw [hb]; decide), if_neg he, if_pos hb1]; done) | (rw [tP_5 h0 h00 h1 h2 h3 h4 hkg (by omega), tRest, if_neg (by rw [hb]; decide), if_neg he, if_neg (by rw [hb1]; decide), if_pos hb2]; done) | (rw [tP_5 h0 h00 h1 h2 h3 h4 hkg (by omega), tRest, if_neg (by rw [hb]; decide), if_neg he, if_neg (by rw [hb1]; decide), if_neg (by rw [hb2]; decide)]; done))) ?_
                        exact v_vret F hr hlk hQ dX6_put_233 (()) rfl (by trivial)
                    · replace hb1 := bI_t hb1
                      refine v_aload_n F dX6_put_190 0 rfl rfl ?_
                      refine v_iload F dX6_put_191 rfl ?_
                      refine v_iconst (v := nI 2) F dX6_put_193 (by decide) ?_
                      refine v_iload_n F dX6_put_194 2 rfl rfl ?_
                      refine v_imul F dX6_put_195 ?_
                      refine v_topi (nI (2 * k)) (pk_mul 2 k) ?_
                      refine v_cVVF F cs_RX6_60 dX6_put_196 5 (ci := 6) rfl rfl (ih g (2 * k) (upd ke k (nI li)) (upd sp k ((sp k) + nI 1)) (by omega) hkk.1 (by omega) (by first | exact hK | exact KOK_upd hK hl)) (by omega) rfl rfl (Nat.le_of_ble_eq_true rfl) ⟨Nat.zero_le _, Nat.zero_le _⟩ (fun u38 w39 => ?_)
                      refine v_goto F 233 dX6_put_199 (by decide) ?_
                      refine v_w (w' := wC ad G (T, n, mo, ver) Hs P (fp, lp, (tPut T (f + 1) li k (ke, sp)).1, (tPut T (f + 1) li k (ke, sp)).2, tv) Rg Tx Rd) (congrArg (fun z_ => wC ad G (T, n, mo, ver) Hs P z_ Rg Tx Rd) (show (fp, lp, (tPut T f g (2 * k) ((upd ke k (nI li)), (upd sp k ((sp k) + nI 1)))).1, (tPut T f g (2 * k) ((upd ke k (nI li)), (upd sp k ((sp k) + nI 1)))).2, tv) = (fp, lp, (tPut T (f + 1) li k (ke, sp)).1, (tPut T (f + 1) li k (ke, sp)).2, tv) by first | (rw [tP_0 (Or.inl h0)]; done) | (rw [tP_0 (Or.inr h00)]; done) | rw [tP_1 h1] | rw [tP_2 h2] | rw [tP_3 h0 h00 h1 h2 (Or.inl h3)] | rw [tP_3 h0 h00 h1 h2 (Or.inr h4)] | rw [tP_4 h0 h00 h1 h2 h3 h4 h5] | (rw [tP_5 h0 h00 h1 h2 h3 h4 hkg (by omega), tRest, if_pos hb, if_pos he]; done) | (rw [tP_5 h0 h00 h1 h2 h3 h4 hkg (by omega), tRest, if_pos hb, if_neg he, if_pos hb1]; done) | (rw [tP_5 h0 h00 h1 h2 h3 h4 hkg (by omega), tRest, if_pos hb, if_neg he, if_neg (by rw [hb1]; decide), if_pos hb2]; done) | (rw [tP_5 h0 h00 h1 h2 h3 h4 hkg (by omega), tRest, if_pos hb, if_neg he, if_neg (by rw [hb1]; decide), if_neg (by rw [hb2]; decide)]; done) | (rw [tP_5 h0 h00 h1 h2 h3 h4 hkg (by omega), tRest, if_neg (by rw [hb]; decide), if_pos he]; done) | (rw [tP_5 h0 h00 h1 h2 h3 h4 hkg (by omega), tRest, if_neg (by rw [hb]; decide), if_neg he, if_pos hb1]; done) | (rw [tP_5 h0 h00 h1 h2 h3 h4 hkg (by omega), tRest, if_neg (by rw [hb]; decide), if_neg he, if_neg (by rw [hb1]; decide), if_pos hb2]; done) | (rw [tP_5 h0 h00 h1 h2 h3 h4 hkg (by omega), tRest, if_neg (by rw [hb]; decide), if_neg he, if_neg (by rw [hb1]; decide), if_neg (by rw [hb2]; decide)]; done))) ?_
                      exact v_vret F hr hlk hQ dX6_put_233 (()) rfl (by trivial)
                  · replace he := nE (a := (gF k)) (b := (gL k)) (by omega) (by omega) he
                    refine v_w (w' := wC ad G (T, n, mo, ver) Hs P (fp, lp, (tPut T (f + 1) li k (ke, sp)).1, (tPut T (f + 1) li k (ke, sp)).2, tv) Rg Tx Rd) (congrArg (fun z_ => wC ad G (T, n, mo, ver) Hs P z_ Rg Tx Rd) (show (fp, lp, upd ke k (nI li), upd sp k ((sp k) + nI 1), tv) = (fp, lp, (tPut T (f + 1) li k (ke, sp)).1, (tPut T (f + 1) li k (ke, sp)).2, tv) by first | (rw [tP_0 (Or.inl h0)]; done) | (rw [tP_0 (Or.inr h00)]; done) | rw [tP_1 h1] | rw [tP_2 h2] | rw [tP_3 h0 h00 h1 h2 (Or.inl h3)] | rw [tP_3 h0 h00 h1 h2 (Or.inr h4)] | rw [tP_4 h0 h00 h1 h2 h3 h4 h5] | (rw [tP_5 h0 h00 h1 h2 h3 h4 hkg (by omega), tRest, if_pos hb, if_pos he]; done) | (rw [tP_5 h0 h00 h1 h2 h3 h4 hkg (by omega), tRest, if_pos hb, if_neg he, if_pos hb1]; done) | (rw [tP_5 h0 h00 h1 h2 h3 h4 hkg (by omega), tRest, if_pos hb, if_neg he, if_neg (by rw [hb1]; decide), if_pos hb2]; done) | (rw [tP_5 h0 h00 h1 h2 h3 h4 hkg (by omega), tRest, if_pos hb, if_neg he, if_neg (by rw [hb1]; decide), if_neg (by rw [hb2]; decide)]; done) | (rw [tP_5 h0 h00 h1 h2 h3 h4 hkg (by omega), tRest, if_neg (by rw [hb]; decide), if_pos he]; done) | (rw [tP_5 h0 h00 h1 h2 h3 h4 hkg (by omega), tRest, if_neg (by rw [hb]; decide), if_neg he, if_pos hb1]; done) | (rw [tP_5 h0 h00 h1 h2 h3 h4 hkg (by omega), tRest, if_neg (by rw [hb]; decide), if_neg he, if_neg (by rw [hb1]; decide), if_pos hb2]; done) | (rw [tP_5 h0 h00 h1 h2 h3 h4 hkg (by omega), tRest, if_neg (by rw [hb]; decide), if_neg he, if_neg (by rw [hb1]; decide), if_neg (by rw [hb2]; decide)]; done))) ?_
                    exact v_vret F hr hlk hQ dX6_put_170 (()) rfl (by trivial)
              · refine v_aload_n F dX6_put_115 0 rfl rfl ?_
                refine v_get (v := .ref (ad 14)) F inlX6 (ci := 6) rfl 3 (by decide) rfl wF_RX6_18 dX6_put_116 5 rfl rfl ?_
                refine v_iload_n F dX6_put_119 2 rfl rfl ?_
                refine v_iload_n F dX6_put_120 1 rfl rfl ?_
                refine v_iastN F dX6_put_121 14 rfl k rfl (by omega) (by decide) (wC ad G (T, n, mo, ver) Hs P (fp, lp, upd ke k (nI li), upd sp k ((sp k) + nI 1), tv) Rg Tx Rd) rfl ?_
                refine v_w (w' := wC ad G (T, n, mo, ver) Hs P (fp, lp, (tPut T (f + 1) li k (ke, sp)).1, (tPut T (f + 1) li k (ke, sp)).2, tv) Rg Tx Rd) (congrArg (fun z_ => wC ad G (T, n, mo, ver) Hs P z_ Rg Tx Rd) (show (fp, lp, upd ke k (nI li), upd sp k ((sp k) + nI 1), tv) = (fp, lp, (tPut T (f + 1) li k (ke, sp)).1, (tPut T (f + 1) li k (ke, sp)).2, tv) by first | (rw [tP_0 (Or.inl h0)]; done) | (rw [tP_0 (Or.inr h00)]; done) | rw [tP_1 h1] | rw [tP_2 h2] | rw [tP_3 h0 h00 h1 h2 (Or.inl h3)] | rw [tP_3 h0 h00 h1 h2 (Or.inr h4)] | rw [tP_4 h0 h00 h1 h2 h3 h4 h5] | (rw [tP_5 h0 h00 h1 h2 h3 h4 hkg (by omega), tRest, if_pos hb, if_pos he]; done) | (rw [tP_5 h0 h00 h1 h2 h3 h4 hkg (by omega), tRest, if_pos hb, if_neg he, if_pos hb1]; done) | (rw [tP_5 h0 h00 h1 h2 h3 h4 hkg (by omega), tRest, if_pos hb, if_neg he, if_neg (by rw [hb1]; decide), if_pos hb2]; done) | (rw [tP_5 h0 h00 h1 h2 h3 h4 hkg (by omega), tRest, if_pos hb, if_neg he, if_neg (by rw [hb1]; decide), if_neg (by rw [hb2]; decide)]; done) | (rw [tP_5 h0 h00 h1 h2 h3 h4 hkg (by omega), tRest, if_neg (by rw [hb]; decide), if_pos he]; done) | (rw [tP_5 h0 h00 h1 h2 h3 h4 hkg (by omega), tRest, if_neg (by rw [hb]; decide), if_neg he, if_pos hb1]; done) | (rw [tP_5 h0 h00 h1 h2 h3 h4 hkg (by omega), tRest, if_neg (by rw [hb]; decide), if_neg he, if_neg (by rw [hb1]; decide), if_pos hb2]; done) | (rw [tP_5 h0 h00 h1 h2 h3 h4 hkg (by omega), tRest, if_neg (by rw [hb]; decide), if_neg he, if_neg (by rw [hb1]; decide), if_neg (by rw [hb2]; decide)]; done))) ?_
                exact v_vret F hr hlk hQ dX6_put_122 (()) rfl (by trivial)
            · refine v_aload_n F dX6_put_76 0 rfl rfl ?_
              refine v_iload_n F dX6_put_77 1 rfl rfl ?_
              refine v_iconst (v := nI 2) F dX6_put_78 (by decide) ?_
              refine v_iload_n F dX6_put_79 2 rfl rfl ?_
              refine v_imul F dX6_put_80 ?_
              refine v_topi (nI (2 * k)) (pk_mul 2 k) ?_
              refine v_cVVF F cs_RX6_60 dX6_put_81 5 (ci := 6) rfl rfl (ih li (2 * k) ke sp (by omega) hkk.1 (by omega) hK) (by omega) rfl rfl (Nat.le_of_ble_eq_true rfl) ⟨Nat.zero_le _, Nat.zero_le _⟩ (fun u41 w42 => ?_)
              refine v_aload_n F dX6_put_84 0 rfl rfl ?_
              refine v_iload_n F dX6_put_85 1 rfl rfl ?_
              refine v_iconst (v := nI 2) F dX6_put_86 (by decide) ?_
              refine v_iload_n F dX6_put_87 2 rfl rfl ?_
              refine v_imul F dX6_put_88 ?_
              refine v_topi (nI (2 * k)) (pk_mul 2 k) ?_
              refine v_iconst (v := nI 1) F dX6_put_89 (by decide) ?_
              refine v_iadd F dX6_put_90 ?_
              refine v_topi (nI ((2 * k) + 1)) (nI_add (2 * k) 1) ?_
              refine v_cVVF F cs_RX6_60 dX6_put_91 5 (ci := 6) rfl rfl (ih li ((2 * k) + 1) ((tPut T f li (2 * k) (ke, sp)).1) ((tPut T f li (2 * k) (ke, sp)).2) (by omega) hkk.2 (by omega) (tPut_ok hn f li (2 * k) (ke, sp) hl hK)) (by omega) rfl rfl (Nat.le_of_ble_eq_true rfl) ⟨Nat.zero_le _, Nat.zero_le _⟩ (fun u44 w45 => ?_)
              refine v_w (w' := wC ad G (T, n, mo, ver) Hs P (fp, lp, (tPut T (f + 1) li k (ke, sp)).1, (tPut T (f + 1) li k (ke, sp)).2, tv) Rg Tx Rd) (congrArg (fun z_ => wC ad G (T, n, mo, ver) Hs P z_ Rg Tx Rd) (show (fp, lp, (tPut T f li ((2 * k) + 1) (((tPut T f li (2 * k) (ke, sp)).1), ((tPut T f li (2 * k) (ke, sp)).2))).1, (tPut T f li ((2 * k) + 1) (((tPut T f li (2 * k) (ke, sp)).1), ((tPut T f li (2 * k) (ke, sp)).2))).2, tv) = (fp, lp, (tPut T (f + 1) li k (ke, sp)).1, (tPut T (f + 1) li k (ke, sp)).2, tv) by first | (rw [tP_0 (Or.inl h0)]; done) | (rw [tP_0 (Or.inr h00)]; done) | rw [tP_1 h1] | rw [tP_2 h2] | rw [tP_3 h0 h00 h1 h2 (Or.inl h3)] | rw [tP_3 h0 h00 h1 h2 (Or.inr h4)] | rw [tP_4 h0 h00 h1 h2 h3 h4 h5] | (rw [tP_5 h0 h00 h1 h2 h3 h4 hkg (by omega), tRest, if_pos hb, if_pos he]; done) | (rw [tP_5 h0 h00 h1 h2 h3 h4 hkg (by omega), tRest, if_pos hb, if_neg he, if_pos hb1]; done) | (rw [tP_5 h0 h00 h1 h2 h3 h4 hkg (by omega), tRest, if_pos hb, if_neg he, if_neg (by rw [hb1]; decide), if_pos hb2]; done) | (rw [tP_5 h0 h00 h1 h2 h3 h4 hkg (by omega), tRest, if_pos hb, if_neg he, if_neg (by rw [hb1]; decide), if_neg (by rw [hb2]; decide)]; done) | (rw [tP_5 h0 h00 h1 h2 h3 h4 hkg (by omega), tRest, if_neg (by rw [hb]; decide), if_pos he]; done) | (rw [tP_5 h0 h00 h1 h2 h3 h4 hkg (by omega), tRest, if_neg (by rw [hb]; decide), if_neg he, if_pos hb1]; done) | (rw [tP_5 h0 h00 h1 h2 h3 h4 hkg (by omega), tRest, if_neg (by rw [hb]; decide), if_neg he, if_neg (by rw [hb1]; decide), if_pos hb2]; done) | (rw [tP_5 h0 h00 h1 h2 h3 h4 hkg (by omega), tRest, if_neg (by rw [hb]; decide), if_neg he, if_neg (by rw [hb1]; decide), if_neg (by rw [hb2]; decide)]; done))) ?_
              exact v_vret F hr hlk hQ dX6_put_94 (()) rfl (by trivial)
        · refine v_w (w' := wC ad G (T, n, mo, ver) Hs P (fp, lp, (tPut T (f + 1) li k (ke, sp)).1, (tPut T (f + 1) li k (ke, sp)).2, tv) Rg Tx Rd) (congrArg (fun z_ => wC ad G (T, n, mo, ver) Hs P z_ Rg Tx Rd) (show (fp, lp, ke, sp, tv) = (fp, lp, (tPut T (f + 1) li k (ke, sp)).1, (tPut T (f + 1) li k (ke, sp)).2, tv) by first | (rw [tP_0 (Or.inl h0)]; done) | (rw [tP_0 (Or.inr h00)]; done) | rw [tP_1 h1] | rw [tP_2 h2] | rw [tP_3 h0 h00 h1 h2 (Or.inl h3)] | rw [tP_3 h0 h00 h1 h2 (Or.inr h4)] | rw [tP_4 h0 h00 h1 h2 h3 h4 h5] | (rw [tP_5 h0 h00 h1 h2 h3 h4 hkg (by omega), tRest, if_pos hb, if_pos he]; done) | (rw [tP_5 h0 h00 h1 h2 h3 h4 hkg (by omega), tRest, if_pos hb, if_neg he, if_pos hb1]; done) | (rw [tP_5 h0 h00 h1 h2 h3 h4 hkg (by omega), tRest, if_pos hb, if_neg he, if_neg (by rw [hb1]; decide), if_pos hb2]; done) | (rw [tP_5 h0 h00 h1 h2 h3 h4 hkg (by omega), tRest, if_pos hb, if_neg he, if_neg (by rw [hb1]; decide), if_neg (by rw [hb2]; decide)]; done) | (rw [tP_5 h0 h00 h1 h2 h3 h4 hkg (by omega), tRest, if_neg (by rw [hb]; decide), if_pos he]; done) | (rw [tP_5 h0 h00 h1 h2 h3 h4 hkg (by omega), tRest, if_neg (by rw [hb]; decide), if_neg he, if_pos hb1]; done) | (rw [tP_5 h0 h00 h1 h2 h3 h4 hkg (by omega), tRest, if_neg (by rw [hb]; decide), if_neg he, if_neg (by rw [hb1]; decide), if_pos hb2]; done) | (rw [tP_5 h0 h00 h1 h2 h3 h4 hkg (by omega), tRest, if_neg (by rw [hb]; decide), if_neg he, if_neg (by rw [hb1]; decide), if_neg (by rw [hb2]; decide)]; done))) ?_
          exact v_vret F hr hlk hQ dX6_put_62 (()) rfl (by trivial)
    · replace h00 := nKn (a := k) (b := 127) (by omega) (by decide) h00
      refine v_w (w' := wC ad G (T, n, mo, ver) Hs P (fp, lp, (tPut T (f + 1) li k (ke, sp)).1, (tPut T (f + 1) li k (ke, sp)).2, tv) Rg Tx Rd) (congrArg (fun z_ => wC ad G (T, n, mo, ver) Hs P z_ Rg Tx Rd) (show (fp, lp, ke, sp, tv) = (fp, lp, (tPut T (f + 1) li k (ke, sp)).1, (tPut T (f + 1) li k (ke, sp)).2, tv) by first | (rw [tP_0 (Or.inl h0)]; done) | (rw [tP_0 (Or.inr h00)]; done) | rw [tP_1 h1] | rw [tP_2 h2] | rw [tP_3 h0 h00 h1 h2 (Or.inl h3)] | rw [tP_3 h0 h00 h1 h2 (Or.inr h4)] | rw [tP_4 h0 h00 h1 h2 h3 h4 h5] | (rw [tP_5 h0 h00 h1 h2 h3 h4 hkg (by omega), tRest, if_pos hb, if_pos he]; done) | (rw [tP_5 h0 h00 h1 h2 h3 h4 hkg (by omega), tRest, if_pos hb, if_neg he, if_pos hb1]; done) | (rw [tP_5 h0 h00 h1 h2 h3 h4 hkg (by omega), tRest, if_pos hb, if_neg he, if_neg (by rw [hb1]; decide), if_pos hb2]; done) | (rw [tP_5 h0 h00 h1 h2 h3 h4 hkg (by omega), tRest, if_pos hb, if_neg he, if_neg (by rw [hb1]; decide), if_neg (by rw [hb2]; decide)]; done) | (rw [tP_5 h0 h00 h1 h2 h3 h4 hkg (by omega), tRest, if_neg (by rw [hb]; decide), if_pos he]; done) | (rw [tP_5 h0 h00 h1 h2 h3 h4 hkg (by omega), tRest, if_neg (by rw [hb]; decide), if_neg he, if_pos hb1]; done) | (rw [tP_5 h0 h00 h1 h2 h3 h4 hkg (by omega), tRest, if_neg (by rw [hb]; decide), if_neg he, if_neg (by rw [hb1]; decide), if_pos hb2]; done) | (rw [tP_5 h0 h00 h1 h2 h3 h4 hkg (by omega), tRest, if_neg (by rw [hb]; decide), if_neg he, if_neg (by rw [hb1]; decide), if_neg (by rw [hb2]; decide)]; done))) ?_
      exact v_vret F hr hlk hQ dX6_put_11 (()) rfl (by trivial)
theorem m_X6_puts (lau : Launch) (G : GT) (ad : Nat → Nat) (T : Nat → Int32) (n mo ver : Nat) (Hs : HT) (P : PT) (fp lp : Nat → Int32) (tv : Int32) (Rg : RT) (Tx : XT) (Rd : DT) (hn : n ≤ 20) (hT : TOK T n) (hG : GEO fp lp) : ∀ f, f ≤ 7 → PUTS lau G ad T n mo ver Hs P fp lp tv Rg Tx Rd f := by
  intro f
  induction f with
  | zero => exact fun _ li k ke sp hl hkf hkb hK => m_X6_put_0 lau G ad T n mo ver Hs P fp lp tv Rg Tx Rd li k ke sp (by simpa using hkf) hkb
  | succ f ih => exact fun hf li k ke sp hl hkf hkb hK => m_X6_put_step lau G ad T n mo ver Hs P fp lp tv Rg Tx Rd hn hT hG f (ih (by omega)) li k ke sp hl hkf hkb hK
theorem m_X6_put (lau : Launch) (G : GT) (ad : Nat → Nat) (T : Nat → Int32) (n mo ver : Nat) (Hs : HT) (P : PT) (fp lp : Nat → Int32) (tv : Int32) (Rg : RT) (Tx : XT) (Rd : DT) (li k : Nat) (ke sp : Nat → Int32) (hn : n ≤ 20) (hT : TOK T n) (hG : GEO fp lp) (hl : li < n) (hK : KOK ke n) (hk : k = 1 := by rfl) : MV lau G (7 + 3) yX6_put cX6_put 8 none [.ref (ad 5), .int (nI li), .int (nI k)] (wC ad G (T, n, mo, ver) Hs P (fp, lp, ke, sp, tv) Rg Tx Rd) (fun _ : Unit => wC ad G (T, n, mo, ver) Hs P (fp, lp, (tPut T 7 li k (ke, sp)).1, (tPut T 7 li k (ke, sp)).2, tv) Rg Tx Rd) (fun _ => True) :=
  m_X6_puts lau G ad T n mo ver Hs P fp lp tv Rg Tx Rd hn hT hG 7 (Nat.le_refl _) li k ke sp hl (by rw [hk]; decide) (by rw [hk]; decide) hK
set_option maxHeartbeats 4000000 in
set_option maxRecDepth 100000 in
theorem m_X6_has (lau : Launch) (G : GT) (k : Nat) (hk : k < 2147483648) : MI lau G 0 yX6_has cX6_has 1 (some .boolean) [.int (nI k)] ([]) (fun u : Unit => []) (fun r u => r = bI (ndB k)) := by
  refine mi_of (by decide +kernel) (Nat.le_of_ble_eq_true rfl) ?_
  intro p e s m args below meth c A Q F hr hlk hQ
  refine v_st (w' := []) (pc' := 0) (st' := []) rfl rfl rfl [0] (lv' := [(0, .int (nI k))]) rfl ?_
  refine v_iload_n F dX6_has_0 0 rfl rfl ?_
  refine v_iconst (v := nI 1) F dX6_has_1 (by decide) ?_
  refine v_icmp_lt F 15 dX6_has_2 (by decide) (fun c1 => ?_) (fun c1 => ?_)
  · replace c1 := nL (a := k) (b := 1) (by omega) (by decide) c1
    refine v_iconst (v := nI 0) F dX6_has_15 (by decide) ?_
    exact v_zret F hr hlk hQ rfl dX6_has_16 (()) rfl (by simp [ndB, bI, nI_one, nI_0]; omega)
  · replace c1 := nLn (a := k) (b := 1) (by omega) (by decide) c1
    refine v_iload_n F dX6_has_5 0 rfl rfl ?_
    refine v_bipush (v := nI 127) F dX6_has_6 (by decide) ?_
    refine v_icmp_gt F 15 dX6_has_8 (by decide) (fun c2 => ?_) (fun c2 => ?_)
    · replace c2 := nT (a := k) (b := 127) (by omega) (by decide) c2
      refine v_iconst (v := nI 0) F dX6_has_15 (by decide) ?_
      exact v_zret F hr hlk hQ rfl dX6_has_16 (()) rfl (by simp [ndB, bI, nI_one, nI_0]; omega)
    · replace c2 := nTn (a := k) (b := 127) (by omega) (by decide) c2
      refine v_iconst (v := nI 1) F dX6_has_11 (by decide) ?_
      refine v_goto F 16 dX6_has_12 (by decide) ?_
      exact v_zret F hr hlk hQ rfl dX6_has_16 (()) rfl (by simp [ndB, bI, nI_one, nI_0]; omega)
theorem cs_RX6_39 : CSV RX6 39 RX1 yX1_version cX1_version 1 (some .int) 0 := ⟨wC_yX1_version, wM_RX6_39, wIm_yX1_version, wSe_yX1_version, wI_RX1, by decide +kernel, by decide⟩
theorem cs_RX6_44 : CSS RX6 44 yJ7_fill_53178 cJ7_fill_53178 4 none 2 := ⟨wC_yJ7_fill_53178, wM_RX6_44, wSt_yJ7_fill_53178, wI_RJ7, by decide +kernel, by decide⟩
theorem cs_RX6_50 : CSV RX6 50 RX1 yX1_size cX1_size 1 (some .int) 0 := ⟨wC_yX1_size, wM_RX6_50, wIm_yX1_size, wSe_yX1_size, wI_RX1, by decide +kernel, by decide⟩
theorem cs_RX6_53 : CSV RX6 53 RX1 yX1_moment cX1_moment 1 (some .int) 0 := ⟨wC_yX1_moment, wM_RX6_53, wIm_yX1_moment, wSe_yX1_moment, wI_RX1, by decide +kernel, by decide⟩
theorem cs_RX6_56 : CSV RX6 56 RX1 yX1_lives cX1_lives 3 (some .boolean) 2 := ⟨wC_yX1_lives, wM_RX6_56, wIm_yX1_lives, wSe_yX1_lives, wI_RX1, by decide +kernel, by decide⟩
set_option maxHeartbeats 4000000 in
set_option maxRecDepth 100000 in
theorem m_X6_renew (lau : Launch) (G : GT) (ad : Nat → Nat) (T : Nat → Int32) (n mo ver : Nat) (Hs : HT) (P : PT) (Tr : TT) (Rg : RT) (Tx : XT) (Rd : DT) (hn : n ≤ 20) (hT : TOK T n) (hC : TCI T n mo ver Tr) : MV lau G 11 yX6_renew cX6_renew 2 none [.ref (ad 5)] (wC ad G (T, n, mo, ver) Hs P Tr Rg Tx Rd) (fun u : TT => wC ad G (T, n, mo, ver) Hs P u Rg Tx Rd) (fun u => TK T n mo ver u) := by
  obtain ⟨fp, lp, ke, sp, tv⟩ := Tr
  refine mv_of (by decide +kernel) (Nat.le_of_ble_eq_true rfl) ?_
  intro p e s m args below meth c A Q F hr hlk hQ
  refine v_st (w' := wC ad G (T, n, mo, ver) Hs P (fp, lp, ke, sp, tv) Rg Tx Rd) (pc' := 0) (st' := []) rfl rfl rfl [0] (lv' := [(0, .ref (ad 5))]) rfl ?_
  refine v_aload_n F dX6_renew_0 0 rfl rfl ?_
  refine v_get (v := .int tv) F inlX6 (ci := 6) rfl 5 (by decide) rfl wF_RX6_24 dX6_renew_1 5 rfl rfl ?_
  refine v_aload_n F dX6_renew_4 0 rfl rfl ?_
  refine v_get (v := .ref (ad 1)) F inlX6 (ci := 6) rfl 0 (by decide) rfl wF_RX6_28 dX6_renew_5 5 rfl rfl ?_
  refine v_cVIF F cs_RX6_39 dX6_renew_8 1 (ci := 1) rfl rfl (m_X1_version lau G ad T n mo ver Hs P (fp, lp, ke, sp, tv) Rg Tx Rd ) (by decide) rfl rfl (Nat.le_of_ble_eq_true rfl) ⟨Nat.zero_le _, Nat.zero_le _⟩ (fun r1 u2 w3 => ?_)
  subst w3
  refine v_icmp_ne F 15 dX6_renew_11 (by decide) (fun hv => ?_) (fun hv => ?_)
  · refine v_aload_n F dX6_renew_15 0 rfl rfl ?_
    refine v_aload_n F dX6_renew_16 0 rfl rfl ?_
    refine v_get (v := .ref (ad 1)) F inlX6 (ci := 6) rfl 0 (by decide) rfl wF_RX6_28 dX6_renew_17 5 rfl rfl ?_
    refine v_cVIF F cs_RX6_39 dX6_renew_20 1 (ci := 1) rfl rfl (m_X1_version lau G ad T n mo ver Hs P (fp, lp, ke, sp, tv) Rg Tx Rd ) (by decide) rfl rfl (Nat.le_of_ble_eq_true rfl) ⟨Nat.zero_le _, Nat.zero_le _⟩ (fun r4 u5 w6 => ?_)
    subst w6
    refine v_put F inlX6 (ci := 6) rfl tyX6 tyX6_ok nmX6 5 (by decide) rfl rfl wF_RX6_24 dX6_renew_23 (ty := .int) (by decide +kernel) rfl rfl 5 rfl (Nat.le_of_ble_eq_true rfl) (wC ad G (T, n, mo, ver) Hs P (fp, lp, ke, sp, nI ver) Rg Tx Rd) rfl ?_
    refine v_aload_n F dX6_renew_26 0 rfl rfl ?_
    refine v_get (v := .ref (ad 14)) F inlX6 (ci := 6) rfl 3 (by decide) rfl wF_RX6_18 dX6_renew_27 5 rfl rfl ?_
    refine v_iconst (v := (-1)) F dX6_renew_30 (by decide) ?_
    refine v_cSVF F cs_RX6_44 dX6_renew_31 (m_J7_fill14 lau G ad (T, n, mo, ver) Hs P fp lp ke sp (nI ver) Rg Tx Rd (-1) ) (by decide) rfl rfl (Nat.le_of_ble_eq_true rfl) ⟨Nat.zero_le _, Nat.zero_le _⟩ (fun u8 w9 => ?_)
    refine v_aload_n F dX6_renew_34 0 rfl rfl ?_
    refine v_get (v := .ref (ad 15)) F inlX6 (ci := 6) rfl 4 (by decide) rfl wF_RX6_21 dX6_renew_35 5 rfl rfl ?_
    refine v_iconst (v := nI 0) F dX6_renew_38 (by decide) ?_
    refine v_cSVF F cs_RX6_44 dX6_renew_39 (m_J7_fill15 lau G ad (T, n, mo, ver) Hs P fp lp (fillF ke ((-1)) 128) sp (nI ver) Rg Tx Rd (nI 0) ) (by decide) rfl rfl (Nat.le_of_ble_eq_true rfl) ⟨Nat.zero_le _, Nat.zero_le _⟩ (fun u11 w12 => ?_)
    refine v_iconst (v := nI 0) F dX6_renew_42 (by decide) ?_
    refine v_istore_n (lv' := [(1, .int (nI 0)), (0, .ref (ad 5))]) F dX6_renew_43 1 rfl (by decide) rfl ?_
    have L44 : ∀ (k_ : Nat) (i : Nat), n - i < k_ → (i ≤ n) → V p lau e (RM 11) s m args below meth c 2 G A Q (wC ad G (T, n, mo, ver) Hs P (fp, lp, (tAll T mo (fillF ke (-1) 128, fillF sp (nI 0) 128) i).1, (tAll T mo (fillF ke (-1) 128, fillF sp (nI 0) 128) i).2, nI ver) Rg Tx Rd) 0 0 44 [(1, .int (nI i)), (0, .ref (ad 5))] [] := by
      intro k_
      induction k_ with
      | zero => exact fun i hk_ hi => absurd hk_ (Nat.not_lt_zero _)
      | succ k_ ih44 =>
        intro i hk_44 hi
        refine v_iload_n F dX6_renew_44 1 rfl rfl ?_
        refine v_aload_n F dX6_renew_45 0 rfl rfl ?_
        refine v_get (v := .ref (ad 1)) F inlX6 (ci := 6) rfl 0 (by decide) rfl wF_RX6_28 dX6_renew_46 5 rfl rfl ?_
        refine v_cVIF F cs_RX6_50 dX6_renew_49 1 (ci := 1) rfl rfl (m_X1_size lau G ad T n mo ver Hs P (fp, lp, (tAll T mo (fillF ke (-1) 128, fillF sp (nI 0) 128) i).1, (tAll T mo (fillF ke (-1) 128, fillF sp (nI 0) 128) i).2, nI ver) Rg Tx Rd ) (by decide) rfl rfl (Nat.le_of_ble_eq_true rfl) ⟨Nat.zero_le _, Nat.zero_le _⟩ (fun r13 u14 w15 => ?_)
        subst w15
        refine v_icmp_ge F 85 dX6_renew_52 (by decide) (fun c16 => ?_) (fun c16 => ?_)
        · replace c16 := nG (a := i) (b := n) (by omega) (by omega) c16
          exact v_vret F hr hlk hQ dX6_renew_85 ((fp, lp, (tAll T mo (fillF ke (-1) 128, fillF sp (nI 0) 128) i).1, (tAll T mo (fillF ke (-1) 128, fillF sp (nI 0) 128) i).2, nI ver)) rfl (by exact ⟨hC.1, rfl, ke, sp, by rw [show i = n by omega]⟩)
        · replace c16 := nGn (a := i) (b := n) (by omega) (by omega) c16
          refine v_aload_n F dX6_renew_55 0 rfl rfl ?_
          refine v_get (v := .ref (ad 1)) F inlX6 (ci := 6) rfl 0 (by decide) rfl wF_RX6_28 dX6_renew_56 5 rfl rfl ?_
          refine v_iload_n F dX6_renew_59 1 rfl rfl ?_
          refine v_aload_n F dX6_renew_60 0 rfl rfl ?_
          refine v_get (v := .ref (ad 1)) F inlX6 (ci := 6) rfl 0 (by decide) rfl wF_RX6_28 dX6_renew_61 5 rfl rfl ?_
          refine v_cVIF F cs_RX6_53 dX6_renew_64 1 (ci := 1) rfl rfl (m_X1_moment lau G ad T n mo ver Hs P (fp, lp, (tAll T mo (fillF ke (-1) 128, fillF sp (nI 0) 128) i).1, (tAll T mo (fillF ke (-1) 128, fillF sp (nI 0) 128) i).2, nI ver) Rg Tx Rd ) (by decide) rfl rfl (Nat.le_of_ble_eq_true rfl) ⟨Nat.zero_le _, Nat.zero_le _⟩ (fun r17 u18 w19 => ?_)
          subst w19
          refine v_cVIF F cs_RX6_56 dX6_renew_67 1 (ci := 1) rfl rfl (m_X1_lives lau G ad T n mo ver Hs P (fp, lp, (tAll T mo (fillF ke (-1) 128, fillF sp (nI 0) 128) i).1, (tAll T mo (fillF ke (-1) 128, fillF sp (nI 0) 128) i).2, nI ver) Rg Tx Rd i (nI mo) (by omega) (by omega)) (by decide) rfl rfl (Nat.le_of_ble_eq_true rfl) ⟨Nat.zero_le _, Nat.zero_le _⟩ (fun r20 u21 w22 => ?_)
          subst w22
          refine v_if_eq F 79 dX6_renew_70 (by decide) (fun hlv => ?_) (fun hlv => ?_)
          · replace hlv := bI_f hlv
            refine v_iinc (lv' := [(1, .int (nI (i + 1))), (0, .ref (ad 5))]) F (nI (i + 1)) dX6_renew_79 rfl (nI_add i 1) (by decide) rfl ?_
            refine v_goto F 44 dX6_renew_82 (by decide) ?_
            refine v_w (w' := wC ad G (T, n, mo, ver) Hs P (fp, lp, (tAll T mo (fillF ke (-1) 128, fillF sp (nI 0) 128) (i + 1)).1, (tAll T mo (fillF ke (-1) 128, fillF sp (nI 0) 128) (i + 1)).2, nI ver) Rg Tx Rd) (congrArg (fun z_ => wC ad G (T, n, mo, ver) Hs P z_ Rg Tx Rd) (show (fp, lp, (tAll T mo (fillF ke (-1) 128, fillF sp (nI 0) 128) i).1, (tAll T mo (fillF ke (-1) 128, fillF sp (nI 0) 128) i).2, nI ver) = (fp, lp, (tAll T mo (fillF ke (-1) 128, fillF sp (nI 0) 128) (i + 1)).1, (tAll T mo (fillF ke (-1) 128, fillF sp (nI 0) 128) (i + 1)).2, nI ver) by first | rfl | (rw [← tA_1 hlv]; done) | (rw [← tA_0 hlv]; done))) ?_
            refine v_st (w' := wC ad G (T, n, mo, ver) Hs P (fp, lp, (tAll T mo (fillF ke (-1) 128, fillF sp (nI 0) 128) (i + 1)).1, (tAll T mo (fillF ke (-1) 128, fillF sp (nI 0) 128) (i + 1)).2, nI ver) Rg Tx Rd) (pc' := 44) (st' := []) rfl rfl rfl [0, 1] (lv' := [(1, .int (nI (i + 1))), (0, .ref (ad 5))]) rfl ?_
            exact ih44 (i + 1) (by omega) (by omega)
          · replace hlv := bI_t hlv
            refine v_aload_n F dX6_renew_73 0 rfl rfl ?_
            refine v_iload_n F dX6_renew_74 1 rfl rfl ?_
            refine v_iconst (v := nI 1) F dX6_renew_75 (by decide) ?_
            refine v_cVVF F cs_RX6_60 dX6_renew_76 5 (ci := 6) rfl rfl (m_X6_put lau G ad T n mo ver Hs P fp lp (nI ver) Rg Tx Rd i 1 ((tAll T mo (fillF ke (-1) 128, fillF sp (nI 0) 128) i).1) ((tAll T mo (fillF ke (-1) 128, fillF sp (nI 0) 128) i).2) (by omega) hT hC.1 (by omega) (tAll_ok hn KOK_fill i (by omega))) (by omega) rfl rfl (Nat.le_of_ble_eq_true rfl) ⟨Nat.zero_le _, Nat.zero_le _⟩ (fun u24 w25 => ?_)
            refine v_iinc (lv' := [(1, .int (nI (i + 1))), (0, .ref (ad 5))]) F (nI (i + 1)) dX6_renew_79 rfl (nI_add i 1) (by decide) rfl ?_
            refine v_goto F 44 dX6_renew_82 (by decide) ?_
            refine v_w (w' := wC ad G (T, n, mo, ver) Hs P (fp, lp, (tAll T mo (fillF ke (-1) 128, fillF sp (nI 0) 128) (i + 1)).1, (tAll T mo (fillF ke (-1) 128, fillF sp (nI 0) 128) (i + 1)).2, nI ver) Rg Tx Rd) (congrArg (fun z_ => wC ad G (T, n, mo, ver) Hs P z_ Rg Tx Rd) (show (fp, lp, (tPut T 7 i 1 (((tAll T mo (fillF ke (-1) 128, fillF sp (nI 0) 128) i).1), ((tAll T mo (fillF ke (-1) 128, fillF sp (nI 0) 128) i).2))).1, (tPut T 7 i 1 (((tAll T mo (fillF ke (-1) 128, fillF sp (nI 0) 128) i).1), ((tAll T mo (fillF ke (-1) 128, fillF sp (nI 0) 128) i).2))).2, (nI ver)) = (fp, lp, (tAll T mo (fillF ke (-1) 128, fillF sp (nI 0) 128) (i + 1)).1, (tAll T mo (fillF ke (-1) 128, fillF sp (nI 0) 128) (i + 1)).2, nI ver) by first | rfl | (rw [← tA_1 hlv]; done) | (rw [← tA_0 hlv]; done))) ?_
            refine v_st (w' := wC ad G (T, n, mo, ver) Hs P (fp, lp, (tAll T mo (fillF ke (-1) 128, fillF sp (nI 0) 128) (i + 1)).1, (tAll T mo (fillF ke (-1) 128, fillF sp (nI 0) 128) (i + 1)).2, nI ver) Rg Tx Rd) (pc' := 44) (st' := []) rfl rfl rfl [0, 1] (lv' := [(1, .int (nI (i + 1))), (0, .ref (ad 5))]) rfl ?_
            exact ih44 (i + 1) (by omega) (by omega)
    refine v_w (w' := wC ad G (T, n, mo, ver) Hs P (fp, lp, (tAll T mo (fillF ke (-1) 128, fillF sp (nI 0) 128) 0).1, (tAll T mo (fillF ke (-1) 128, fillF sp (nI 0) 128) 0).2, nI ver) Rg Tx Rd) (congrArg (fun z_ => wC ad G (T, n, mo, ver) Hs P z_ Rg Tx Rd) (show (fp, lp, (fillF ke ((-1)) 128), fillF sp (nI 0) 128, ((nI ver))) = (fp, lp, (tAll T mo (fillF ke (-1) 128, fillF sp (nI 0) 128) 0).1, (tAll T mo (fillF ke (-1) 128, fillF sp (nI 0) 128) 0).2, nI ver) by first | rfl | (rw [← tA_1 hlv]; done) | (rw [← tA_0 hlv]; done))) ?_
    refine v_st (w' := wC ad G (T, n, mo, ver) Hs P (fp, lp, (tAll T mo (fillF ke (-1) 128, fillF sp (nI 0) 128) 0).1, (tAll T mo (fillF ke (-1) 128, fillF sp (nI 0) 128) 0).2, nI ver) Rg Tx Rd) (pc' := 44) (st' := []) rfl rfl rfl [0, 1] (lv' := [(1, .int (nI 0)), (0, .ref (ad 5))]) rfl ?_
    exact L44 _ 0 (Nat.lt_succ_self _) (by omega)
  · exact v_vret F hr hlk hQ dX6_renew_14 ((fp, lp, ke, sp, tv)) rfl (by exact hC.2.2 hv)
theorem cs_RX6_32 : CSS RX6 32 yX6_has cX6_has 1 (some .boolean) 1 := ⟨wC_yX6_has, wM_RX6_32, wSt_yX6_has, wI_RX6, by decide +kernel, by decide⟩
theorem cs_RX6_36 : CSV RX6 36 RX6 yX6_renew cX6_renew 2 none 0 := ⟨wC_yX6_renew, wM_RX6_36, wIm_yX6_renew, wSe_yX6_renew, wI_RX6, by decide +kernel, by decide⟩
set_option maxHeartbeats 4000000 in
set_option maxRecDepth 100000 in
theorem m_X6_lineOf (lau : Launch) (G : GT) (ad : Nat → Nat) (T : Nat → Int32) (n mo ver : Nat) (Hs : HT) (P : PT) (Tr : TT) (Rg : RT) (Tx : XT) (Rd : DT) (k : Nat) (hk1 : 1 ≤ k) (hk2 : k ≤ 127) (hn : n ≤ 20) (hT : TOK T n) (hC : TCI T n mo ver Tr) : MI lau G 12 yX6_lineOf cX6_lineOf 2 (some .int) [.ref (ad 5), .int (nI k)] (wC ad G (T, n, mo, ver) Hs P Tr Rg Tx Rd) (fun u : TT => wC ad G (T, n, mo, ver) Hs P u Rg Tx Rd) (fun r u => r = kp T n mo k ∧ TCI T n mo ver u) := by
  refine mi_of (by decide +kernel) (Nat.le_of_ble_eq_true rfl) ?_
  intro p e s m args below meth c A Q F hr hlk hQ
  refine v_st (w' := wC ad G (T, n, mo, ver) Hs P Tr Rg Tx Rd) (pc' := 0) (st' := []) rfl rfl rfl [0, 1] (lv' := [(0, .ref (ad 5)), (1, .int (nI k))]) rfl ?_
  refine v_aload_n F dX6_lineOf_0 0 rfl rfl ?_
  refine v_cVVF F cs_RX6_36 dX6_lineOf_1 5 (ci := 6) rfl rfl (m_X6_renew lau G ad T n mo ver Hs P Tr Rg Tx Rd (by omega) hT hC) (by decide) rfl rfl (Nat.le_of_ble_eq_true rfl) ⟨Nat.zero_le _, Nat.zero_le _⟩ (fun u2 w3 => ?_)
  have hTk := w3
  refine v_iload_n F dX6_lineOf_4 1 rfl rfl ?_
  refine v_cSIE F cs_RX6_32 dX6_lineOf_5 (m_X6_has lau G k (by omega)) (by decide) rfl rfl (Nat.le_of_ble_eq_true rfl) ⟨Nat.zero_le _, Nat.zero_le _⟩ (fun r4 u5 w6 => ?_)
  subst w6
  refine v_topi (bI true) (congrArg bI (ndB_t hk1 hk2)) ?_
  refine v_if_eq F 20 dX6_lineOf_8 (by decide) (fun h => absurd h (by decide)) (fun _ => ?_)
  refine v_aload_n F dX6_lineOf_11 0 rfl rfl ?_
  refine v_get (v := .ref (ad 14)) F inlX6 (ci := 6) rfl 3 (by decide) rfl wF_RX6_18 dX6_lineOf_12 5 rfl rfl ?_
  refine v_iload_n F dX6_lineOf_15 1 rfl rfl ?_
  refine v_ialdN F dX6_lineOf_16 14 rfl k rfl (by omega) (by decide) (u2.2.2.1 k) rfl ?_
  refine v_topi ((kp T n mo k)) ((TK.val hTk hn (by omega)).1) ?_
  refine v_goto F 21 dX6_lineOf_17 (by decide) ?_
  exact v_iret F hr hlk hQ dX6_lineOf_21 (u2) rfl (by exact ⟨rfl, TK.ci hTk⟩)
set_option maxHeartbeats 4000000 in
set_option maxRecDepth 100000 in
theorem m_X6_stepsAt (lau : Launch) (G : GT) (ad : Nat → Nat) (T : Nat → Int32) (n mo ver : Nat) (Hs : HT) (P : PT) (Tr : TT) (Rg : RT) (Tx : XT) (Rd : DT) (k : Nat) (hk1 : 1 ≤ k) (hk2 : k ≤ 127) (hn : n ≤ 20) (hT : TOK T n) (hC : TCI T n mo ver Tr) : MI lau G 12 yX6_stepsAt cX6_stepsAt 2 (some .int) [.ref (ad 5), .int (nI k)] (wC ad G (T, n, mo, ver) Hs P Tr Rg Tx Rd) (fun u : TT => wC ad G (T, n, mo, ver) Hs P u Rg Tx Rd) (fun r u => r = stp T n mo k ∧ TCI T n mo ver u) := by
  refine mi_of (by decide +kernel) (Nat.le_of_ble_eq_true rfl) ?_
  intro p e s m args below meth c A Q F hr hlk hQ
  refine v_st (w' := wC ad G (T, n, mo, ver) Hs P Tr Rg Tx Rd) (pc' := 0) (st' := []) rfl rfl rfl [0, 1] (lv' := [(0, .ref (ad 5)), (1, .int (nI k))]) rfl ?_
  refine v_aload_n F dX6_stepsAt_0 0 rfl rfl ?_
  refine v_cVVF F cs_RX6_36 dX6_stepsAt_1 5 (ci := 6) rfl rfl (m_X6_renew lau G ad T n mo ver Hs P Tr Rg Tx Rd (by omega) hT hC) (by decide) rfl rfl (Nat.le_of_ble_eq_true rfl) ⟨Nat.zero_le _, Nat.zero_le _⟩ (fun u2 w3 => ?_)
  have hTk := w3
  refine v_iload_n F dX6_stepsAt_4 1 rfl rfl ?_
  refine v_cSIE F cs_RX6_32 dX6_stepsAt_5 (m_X6_has lau G k (by omega)) (by decide) rfl rfl (Nat.le_of_ble_eq_true rfl) ⟨Nat.zero_le _, Nat.zero_le _⟩ (fun r4 u5 w6 => ?_)
  subst w6
  refine v_topi (bI true) (congrArg bI (ndB_t hk1 hk2)) ?_
  refine v_if_eq F 20 dX6_stepsAt_8 (by decide) (fun h => absurd h (by decide)) (fun _ => ?_)
  refine v_aload_n F dX6_stepsAt_11 0 rfl rfl ?_
  refine v_get (v := .ref (ad 15)) F inlX6 (ci := 6) rfl 4 (by decide) rfl wF_RX6_21 dX6_stepsAt_12 5 rfl rfl ?_
  refine v_iload_n F dX6_stepsAt_15 1 rfl rfl ?_
  refine v_ialdN F dX6_stepsAt_16 15 rfl k rfl (by omega) (by decide) (u2.2.2.2.1 k) rfl ?_
  refine v_topi ((stp T n mo k)) ((TK.val hTk hn (by omega)).2) ?_
  refine v_goto F 21 dX6_stepsAt_17 (by decide) ?_
  exact v_iret F hr hlk hQ dX6_stepsAt_21 (u2) rfl (by exact ⟨rfl, TK.ci hTk⟩)
set_option maxHeartbeats 4000000 in
set_option maxRecDepth 100000 in
theorem m_X6_nodesOf (lau : Launch) (G : GT) (ad : Nat → Nat) (T : Nat → Int32) (n mo ver : Nat) (Hs : HT) (P : PT) (Tr : TT) (Rg : RT) (Tx : XT) (Rd : DT) (ln : Int32) (hn : n ≤ 20) (hT : TOK T n) (hC : TCI T n mo ver Tr) : MI lau G 12 yX6_nodesOf cX6_nodesOf 4 (some .int) [.ref (ad 5), .int ln] (wC ad G (T, n, mo, ver) Hs P Tr Rg Tx Rd) (fun u : TT => wC ad G (T, n, mo, ver) Hs P u Rg Tx Rd) (fun r u => r = nI (nds T n mo ln 128) ∧ TCI T n mo ver u) := by
  refine mi_of (by decide +kernel) (Nat.le_of_ble_eq_true rfl) ?_
  intro p e s m args below meth c A Q F hr hlk hQ
  refine v_st (w' := wC ad G (T, n, mo, ver) Hs P Tr Rg Tx Rd) (pc' := 0) (st' := []) rfl rfl rfl [0, 1] (lv' := [(0, .ref (ad 5)), (1, .int ln)]) rfl ?_
  refine v_aload_n F dX6_nodesOf_0 0 rfl rfl ?_
  refine v_cVVF F cs_RX6_36 dX6_nodesOf_1 5 (ci := 6) rfl rfl (m_X6_renew lau G ad T n mo ver Hs P Tr Rg Tx Rd (by omega) hT hC) (by decide) rfl rfl (Nat.le_of_ble_eq_true rfl) ⟨Nat.zero_le _, Nat.zero_le _⟩ (fun u2 w3 => ?_)
  have hTk := w3
  refine v_iconst (v := nI 0) F dX6_nodesOf_4 (by decide) ?_
  refine v_istore_n (lv' := [(2, .int (nI 0)), (0, .ref (ad 5)), (1, .int ln)]) F dX6_nodesOf_5 2 rfl (by decide) rfl ?_
  refine v_iconst (v := nI 1) F dX6_nodesOf_6 (by decide) ?_
  refine v_istore_n (lv' := [(3, .int (nI 1)), (2, .int (nI 0)), (0, .ref (ad 5)), (1, .int ln)]) F dX6_nodesOf_7 3 rfl (by decide) rfl ?_
  have L8 : ∀ (k_ : Nat) (i : Nat) (k : Nat), 128 - i < k_ → (1 ≤ i) → (i ≤ 128) → (k = nds T n mo ln i) → V p lau e (RM 12) s m args below meth c 4 G A Q (wC ad G (T, n, mo, ver) Hs P u2 Rg Tx Rd) 0 0 8 [(3, .int (nI i)), (2, .int (nI k)), (0, .ref (ad 5)), (1, .int ln)] [] := by
    intro k_
    induction k_ with
    | zero => exact fun i k hk_ h1 hi hk => absurd hk_ (Nat.not_lt_zero _)
    | succ k_ ih8 =>
      intro i k hk_8 h1 hi hk
      refine v_iload_n F dX6_nodesOf_8 3 rfl rfl ?_
      refine v_bipush (v := nI 127) F dX6_nodesOf_9 (by decide) ?_
      refine v_icmp_gt F 33 dX6_nodesOf_11 (by decide) (fun c4 => ?_) (fun c4 => ?_)
      · replace c4 := nT (a := i) (b := 127) (by omega) (by decide) c4
        refine v_iload_n F dX6_nodesOf_33 2 rfl rfl ?_
        exact v_iret F hr hlk hQ dX6_nodesOf_34 (u2) rfl (by exact ⟨by rw [hk, show i = 128 by omega], TK.ci hTk⟩)
      · replace c4 := nTn (a := i) (b := 127) (by omega) (by decide) c4
        refine v_aload_n F dX6_nodesOf_14 0 rfl rfl ?_
        refine v_get (v := .ref (ad 14)) F inlX6 (ci := 6) rfl 3 (by decide) rfl wF_RX6_18 dX6_nodesOf_15 5 rfl rfl ?_
        refine v_iload_n F dX6_nodesOf_18 3 rfl rfl ?_
        refine v_ialdN F dX6_nodesOf_19 14 rfl i rfl (by omega) (by decide) (u2.2.2.1 i) rfl ?_
        refine v_topi ((kp T n mo i)) ((TK.val hTk hn (by omega)).1) ?_
        refine v_iload_n F dX6_nodesOf_20 1 rfl rfl ?_
        refine v_icmp_ne F 27 dX6_nodesOf_21 (by decide) (fun c5 => ?_) (fun c5 => ?_)
        · refine v_iinc (lv' := [(3, .int (nI (i + 1))), (2, .int (nI k)), (0, .ref (ad 5)), (1, .int ln)]) F (nI (i + 1)) dX6_nodesOf_27 rfl (nI_add i 1) (by decide) rfl ?_
          refine v_goto F 8 dX6_nodesOf_30 (by decide) ?_
          refine v_st (w' := wC ad G (T, n, mo, ver) Hs P u2 Rg Tx Rd) (pc' := 8) (st' := []) rfl rfl rfl [0, 1, 2, 3] (lv' := [(3, .int (nI (i + 1))), (2, .int (nI k)), (0, .ref (ad 5)), (1, .int ln)]) rfl ?_
          exact ih8 (i + 1) k (by omega) (by omega) (by omega) (by simp [nds, *])
        · refine v_iinc (lv' := [(2, .int (nI (k + 1))), (3, .int (nI i)), (0, .ref (ad 5)), (1, .int ln)]) F (nI (k + 1)) dX6_nodesOf_24 rfl (nI_add k 1) (by decide) rfl ?_
          refine v_iinc (lv' := [(3, .int (nI (i + 1))), (2, .int (nI (k + 1))), (0, .ref (ad 5)), (1, .int ln)]) F (nI (i + 1)) dX6_nodesOf_27 rfl (nI_add i 1) (by decide) rfl ?_
          refine v_goto F 8 dX6_nodesOf_30 (by decide) ?_
          refine v_st (w' := wC ad G (T, n, mo, ver) Hs P u2 Rg Tx Rd) (pc' := 8) (st' := []) rfl rfl rfl [0, 1, 2, 3] (lv' := [(3, .int (nI (i + 1))), (2, .int (nI (k + 1))), (0, .ref (ad 5)), (1, .int ln)]) rfl ?_
          exact ih8 (i + 1) (k + 1) (by omega) (by omega) (by omega) (by simp [nds, *])
  refine v_st (w' := wC ad G (T, n, mo, ver) Hs P u2 Rg Tx Rd) (pc' := 8) (st' := []) rfl rfl rfl [0, 1, 2, 3] (lv' := [(3, .int (nI 1)), (2, .int (nI 0)), (0, .ref (ad 5)), (1, .int ln)]) rfl ?_
  exact L8 _ 1 0 (Nat.lt_succ_self _) (by omega) (by omega) (by simp [nds])
set_option maxHeartbeats 4000000 in
set_option maxRecDepth 100000 in
theorem m_X6_allSteps (lau : Launch) (G : GT) (ad : Nat → Nat) (T : Nat → Int32) (n mo ver : Nat) (Hs : HT) (P : PT) (Tr : TT) (Rg : RT) (Tx : XT) (Rd : DT) (hn : n ≤ 20) (hT : TOK T n) (hC : TCI T n mo ver Tr) : MI lau G 12 yX6_allSteps cX6_allSteps 3 (some .int) [.ref (ad 5)] (wC ad G (T, n, mo, ver) Hs P Tr Rg Tx Rd) (fun u : TT => wC ad G (T, n, mo, ver) Hs P u Rg Tx Rd) (fun r u => r = sts T n mo 128 ∧ TCI T n mo ver u) := by
  refine mi_of (by decide +kernel) (Nat.le_of_ble_eq_true rfl) ?_
  intro p e s m args below meth c A Q F hr hlk hQ
  refine v_st (w' := wC ad G (T, n, mo, ver) Hs P Tr Rg Tx Rd) (pc' := 0) (st' := []) rfl rfl rfl [0] (lv' := [(0, .ref (ad 5))]) rfl ?_
  refine v_aload_n F dX6_allSteps_0 0 rfl rfl ?_
  refine v_cVVF F cs_RX6_36 dX6_allSteps_1 5 (ci := 6) rfl rfl (m_X6_renew lau G ad T n mo ver Hs P Tr Rg Tx Rd (by omega) hT hC) (by decide) rfl rfl (Nat.le_of_ble_eq_true rfl) ⟨Nat.zero_le _, Nat.zero_le _⟩ (fun u2 w3 => ?_)
  have hTk := w3
  refine v_iconst (v := nI 0) F dX6_allSteps_4 (by decide) ?_
  refine v_istore_n (lv' := [(1, .int (nI 0)), (0, .ref (ad 5))]) F dX6_allSteps_5 1 rfl (by decide) rfl ?_
  refine v_iconst (v := nI 1) F dX6_allSteps_6 (by decide) ?_
  refine v_istore_n (lv' := [(2, .int (nI 1)), (1, .int (nI 0)), (0, .ref (ad 5))]) F dX6_allSteps_7 2 rfl (by decide) rfl ?_
  have L8 : ∀ (k_ : Nat) (i : Nat) (k : Int32), 128 - i < k_ → (1 ≤ i) → (i ≤ 128) → (k = sts T n mo i) → V p lau e (RM 12) s m args below meth c 3 G A Q (wC ad G (T, n, mo, ver) Hs P u2 Rg Tx Rd) 0 0 8 [(2, .int (nI i)), (1, .int k), (0, .ref (ad 5))] [] := by
    intro k_
    induction k_ with
    | zero => exact fun i k hk_ h1 hi hk => absurd hk_ (Nat.not_lt_zero _)
    | succ k_ ih8 =>
      intro i k hk_8 h1 hi hk
      refine v_iload_n F dX6_allSteps_8 2 rfl rfl ?_
      refine v_bipush (v := nI 127) F dX6_allSteps_9 (by decide) ?_
      refine v_icmp_gt F 29 dX6_allSteps_11 (by decide) (fun c4 => ?_) (fun c4 => ?_)
      · replace c4 := nT (a := i) (b := 127) (by omega) (by decide) c4
        refine v_iload_n F dX6_allSteps_29 1 rfl rfl ?_
        exact v_iret F hr hlk hQ dX6_allSteps_30 (u2) rfl (by exact ⟨by rw [hk, show i = 128 by omega], TK.ci hTk⟩)
      · replace c4 := nTn (a := i) (b := 127) (by omega) (by decide) c4
        refine v_iload_n F dX6_allSteps_14 1 rfl rfl ?_
        refine v_aload_n F dX6_allSteps_15 0 rfl rfl ?_
        refine v_get (v := .ref (ad 15)) F inlX6 (ci := 6) rfl 4 (by decide) rfl wF_RX6_21 dX6_allSteps_16 5 rfl rfl ?_
        refine v_iload_n F dX6_allSteps_19 2 rfl rfl ?_
        refine v_ialdN F dX6_allSteps_20 15 rfl i rfl (by omega) (by decide) (u2.2.2.2.1 i) rfl ?_
        refine v_topi ((stp T n mo i)) ((TK.val hTk hn (by omega)).2) ?_
        refine v_iadd F dX6_allSteps_21 ?_
        refine v_istore_n (lv' := [(1, .int (k + (stp T n mo i))), (2, .int (nI i)), (0, .ref (ad 5))]) F dX6_allSteps_22 1 rfl (by decide) rfl ?_
        refine v_iinc (lv' := [(2, .int (nI (i + 1))), (1, .int (k + (stp T n mo i))), (0, .ref (ad 5))]) F (nI (i + 1)) dX6_allSteps_23 rfl (nI_add i 1) (by decide) rfl ?_
        refine v_goto F 8 dX6_allSteps_26 (by decide) ?_
        refine v_st (w' := wC ad G (T, n, mo, ver) Hs P u2 Rg Tx Rd) (pc' := 8) (st' := []) rfl rfl rfl [0, 1, 2] (lv' := [(2, .int (nI (i + 1))), (1, .int (k + (stp T n mo i))), (0, .ref (ad 5))]) rfl ?_
        exact ih8 (i + 1) (k + (stp T n mo i)) (by omega) (by omega) (by omega) (by simp [sts, *])
  refine v_st (w' := wC ad G (T, n, mo, ver) Hs P u2 Rg Tx Rd) (pc' := 8) (st' := []) rfl rfl rfl [0, 1, 2] (lv' := [(2, .int (nI 1)), (1, .int (nI 0)), (0, .ref (ad 5))]) rfl ?_
  exact L8 _ 1 (nI 0) (Nat.lt_succ_self _) (by omega) (by omega) (by simp [sts])
set_option maxHeartbeats 4000000 in
set_option maxRecDepth 100000 in
theorem m_X6_firstPlace (lau : Launch) (G : GT) (ad : Nat → Nat) (L : LT) (Hs : HT) (P : PT) (fp lp ke sp : Nat → Int32) (tv : Int32) (Rg : RT) (Tx : XT) (Rd : DT) (k : Nat) (hk1 : 1 ≤ k) (hk2 : k ≤ 127) (hG : GEO fp lp) : MI lau G 2 yX6_firstPlace cX6_firstPlace 2 (some .int) [.ref (ad 5), .int (nI k)] (wC ad G L Hs P (fp, lp, ke, sp, tv) Rg Tx Rd) (fun u : Unit => wC ad G L Hs P (fp, lp, ke, sp, tv) Rg Tx Rd) (fun r u => r = nI (gF k)) := by
  refine mi_of (by decide +kernel) (Nat.le_of_ble_eq_true rfl) ?_
  intro p e s m args below meth c A Q F hr hlk hQ
  refine v_st (w' := wC ad G L Hs P (fp, lp, ke, sp, tv) Rg Tx Rd) (pc' := 0) (st' := []) rfl rfl rfl [0, 1] (lv' := [(0, .ref (ad 5)), (1, .int (nI k))]) rfl ?_
  refine v_iload_n F dX6_firstPlace_0 1 rfl rfl ?_
  refine v_cSIE F cs_RX6_32 dX6_firstPlace_1 (m_X6_has lau G k (by omega)) (by decide) rfl rfl (Nat.le_of_ble_eq_true rfl) ⟨Nat.zero_le _, Nat.zero_le _⟩ (fun r1 u2 w3 => ?_)
  subst w3
  refine v_topi (bI true) (congrArg bI (ndB_t hk1 hk2)) ?_
  refine v_if_eq F 16 dX6_firstPlace_4 (by decide) (fun h => absurd h (by decide)) (fun _ => ?_)
  refine v_aload_n F dX6_firstPlace_7 0 rfl rfl ?_
  refine v_get (v := .ref (ad 12)) F inlX6 (ci := 6) rfl 1 (by decide) rfl wF_RX6_9 dX6_firstPlace_8 5 rfl rfl ?_
  refine v_iload_n F dX6_firstPlace_11 1 rfl rfl ?_
  refine v_ialdN F dX6_firstPlace_12 12 rfl k rfl (by omega) (by decide) (fp k) rfl ?_
  refine v_topi (nI (gF k)) ((hG k hk1 hk2).1) ?_
  refine v_goto F 17 dX6_firstPlace_13 (by decide) ?_
  exact v_iret F hr hlk hQ dX6_firstPlace_17 (()) rfl (by first | rfl | (simp; done))
set_option maxHeartbeats 4000000 in
set_option maxRecDepth 100000 in
theorem m_X6_lastPlace (lau : Launch) (G : GT) (ad : Nat → Nat) (L : LT) (Hs : HT) (P : PT) (fp lp ke sp : Nat → Int32) (tv : Int32) (Rg : RT) (Tx : XT) (Rd : DT) (k : Nat) (hk1 : 1 ≤ k) (hk2 : k ≤ 127) (hG : GEO fp lp) : MI lau G 2 yX6_lastPlace cX6_lastPlace 2 (some .int) [.ref (ad 5), .int (nI k)] (wC ad G L Hs P (fp, lp, ke, sp, tv) Rg Tx Rd) (fun u : Unit => wC ad G L Hs P (fp, lp, ke, sp, tv) Rg Tx Rd) (fun r u => r = nI (gL k)) := by
  refine mi_of (by decide +kernel) (Nat.le_of_ble_eq_true rfl) ?_
  intro p e s m args below meth c A Q F hr hlk hQ
  refine v_st (w' := wC ad G L Hs P (fp, lp, ke, sp, tv) Rg Tx Rd) (pc' := 0) (st' := []) rfl rfl rfl [0, 1] (lv' := [(0, .ref (ad 5)), (1, .int (nI k))]) rfl ?_
  refine v_iload_n F dX6_lastPlace_0 1 rfl rfl ?_
  refine v_cSIE F cs_RX6_32 dX6_lastPlace_1 (m_X6_has lau G k (by omega)) (by decide) rfl rfl (Nat.le_of_ble_eq_true rfl) ⟨Nat.zero_le _, Nat.zero_le _⟩ (fun r1 u2 w3 => ?_)
  subst w3
  refine v_topi (bI true) (congrArg bI (ndB_t hk1 hk2)) ?_
  refine v_if_eq F 16 dX6_lastPlace_4 (by decide) (fun h => absurd h (by decide)) (fun _ => ?_)
  refine v_aload_n F dX6_lastPlace_7 0 rfl rfl ?_
  refine v_get (v := .ref (ad 13)) F inlX6 (ci := 6) rfl 2 (by decide) rfl wF_RX6_15 dX6_lastPlace_8 5 rfl rfl ?_
  refine v_iload_n F dX6_lastPlace_11 1 rfl rfl ?_
  refine v_ialdN F dX6_lastPlace_12 13 rfl k rfl (by omega) (by decide) (lp k) rfl ?_
  refine v_topi (nI (gL k)) ((hG k hk1 hk2).2) ?_
  refine v_goto F 17 dX6_lastPlace_13 (by decide) ?_
  exact v_iret F hr hlk hQ dX6_lastPlace_17 (()) rfl (by first | rfl | (simp; done))
set_option maxHeartbeats 4000000 in
set_option maxRecDepth 100000 in
theorem m_X6_middle (lau : Launch) (G : GT) (ad : Nat → Nat) (L : LT) (Hs : HT) (P : PT) (fp lp ke sp : Nat → Int32) (tv : Int32) (Rg : RT) (Tx : XT) (Rd : DT) (k : Nat) (hk1 : 1 ≤ k) (hk2 : k ≤ 127) (hG : GEO fp lp) : MI lau G 2 yX6_middle cX6_middle 2 (some .int) [.ref (ad 5), .int (nI k)] (wC ad G L Hs P (fp, lp, ke, sp, tv) Rg Tx Rd) (fun u : Unit => wC ad G L Hs P (fp, lp, ke, sp, tv) Rg Tx Rd) (fun r u => r = nI ((gF k + gL k) / 2)) := by
  have hgeo := geo_all k (by omega) hk1
  refine mi_of (by decide +kernel) (Nat.le_of_ble_eq_true rfl) ?_
  intro p e s m args below meth c A Q F hr hlk hQ
  refine v_st (w' := wC ad G L Hs P (fp, lp, ke, sp, tv) Rg Tx Rd) (pc' := 0) (st' := []) rfl rfl rfl [0, 1] (lv' := [(0, .ref (ad 5)), (1, .int (nI k))]) rfl ?_
  refine v_iload_n F dX6_middle_0 1 rfl rfl ?_
  refine v_cSIE F cs_RX6_32 dX6_middle_1 (m_X6_has lau G k (by omega)) (by decide) rfl rfl (Nat.le_of_ble_eq_true rfl) ⟨Nat.zero_le _, Nat.zero_le _⟩ (fun r1 u2 w3 => ?_)
  subst w3
  refine v_topi (bI true) (congrArg bI (ndB_t hk1 hk2)) ?_
  refine v_if_eq F 25 dX6_middle_4 (by decide) (fun h => absurd h (by decide)) (fun _ => ?_)
  refine v_aload_n F dX6_middle_7 0 rfl rfl ?_
  refine v_get (v := .ref (ad 12)) F inlX6 (ci := 6) rfl 1 (by decide) rfl wF_RX6_9 dX6_middle_8 5 rfl rfl ?_
  refine v_iload_n F dX6_middle_11 1 rfl rfl ?_
  refine v_ialdN F dX6_middle_12 12 rfl k rfl (by omega) (by decide) (fp k) rfl ?_
  refine v_topi (nI (gF k)) ((hG k hk1 hk2).1) ?_
  refine v_aload_n F dX6_middle_13 0 rfl rfl ?_
  refine v_get (v := .ref (ad 13)) F inlX6 (ci := 6) rfl 2 (by decide) rfl wF_RX6_15 dX6_middle_14 5 rfl rfl ?_
  refine v_iload_n F dX6_middle_17 1 rfl rfl ?_
  refine v_ialdN F dX6_middle_18 13 rfl k rfl (by omega) (by decide) (lp k) rfl ?_
  refine v_topi (nI (gL k)) ((hG k hk1 hk2).2) ?_
  refine v_iadd F dX6_middle_19 ?_
  refine v_topi (nI ((gF k) + (gL k))) (nI_add (gF k) (gL k)) ?_
  refine v_iconst (v := nI 2) F dX6_middle_20 (by decide) ?_
  refine v_idiv F dX6_middle_21 (by decide) ?_
  refine v_topi (nI (((gF k) + (gL k)) / 2)) (pk_div (by omega) (by decide) (by decide)) ?_
  refine v_goto F 26 dX6_middle_22 (by decide) ?_
  exact v_iret F hr hlk hQ dX6_middle_26 (()) rfl (by first | rfl | (simp; done))
