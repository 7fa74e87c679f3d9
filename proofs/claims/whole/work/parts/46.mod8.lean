theorem cs_RX8_147 : CSV RX8 147 RX8 yX8_isMinus cX8_isMinus 2 (some .boolean) 0 := ⟨wC_yX8_isMinus, wM_RX8_147, wIm_yX8_isMinus, wSe_yX8_isMinus, wI_RX8, by decide +kernel, by decide⟩
theorem cs_RX8_150 : CSV RX8 150 RX8 yX8_isSmall cX8_isSmall 3 (some .boolean) 2 := ⟨wC_yX8_isSmall, wM_RX8_150, wIm_yX8_isSmall, wSe_yX8_isSmall, wI_RX8, by decide +kernel, by decide⟩
theorem cs_RX8_153 : CSV RX8 153 RX8 yX8_isSign cX8_isSign 2 (some .boolean) 1 := ⟨wC_yX8_isSign, wM_RX8_153, wIm_yX8_isSign, wSe_yX8_isSign, wI_RX8, by decide +kernel, by decide⟩
theorem cs_RX8_156 : CSV RX8 156 RX8 yX8_isGreat cX8_isGreat 1 (some .boolean) 0 := ⟨wC_yX8_isGreat, wM_RX8_156, wIm_yX8_isGreat, wSe_yX8_isGreat, wI_RX8, by decide +kernel, by decide⟩
set_option maxHeartbeats 400000 in
set_option maxRecDepth 100000 in
theorem m_X8_isPart (lau : Launch) (G : GT) (ad : Nat → Nat) (N : Nat → Int32) (Hs : HT) (co : Nat → Int32) (len : Nat) (Tw : Nat) (i : Nat) (ft : Bool) (vl : Nat) (td : Nat → Int32) (tn : Nat) (Ks : KS) (Lo Wi : Nat → Int32) (dd : DT) (nu : Nat) (sl off : Int32) (fi : Nat) (hX : TXOK co len) (htn : tn ≤ 12) (hR : RS dd co len i i (0, nu, false, sl, off, fi)) : MI lau G 4 yX8_isPart cX8_isPart 3 (some .boolean) [.ref (ad 0)] (wM ad G N Hs (co, len) Tw (i, ft, vl, td, tn) Ks Lo Wi) (fun u : Bool × Nat × Bool × Nat × (Nat → Int32) => wM ad G N Hs (co, len) Tw (u.2.1, u.2.2.1, u.2.2.2.1, u.2.2.2.2, tn) Ks Lo Wi) (fun r u => r = bI u.1 ∧ PP dd co len i td tn u.1 u.2.1 u.2.2.1 u.2.2.2.2) := by
  have hlen := hX.1
  have hi0 := hR.1
  refine mi_of (by decide +kernel) (Nat.le_of_ble_eq_true rfl) ?_
  intro p e s m args below meth c A Q F hr hlk hQ
  refine v_st (w' := wM ad G N Hs (co, len) Tw (i, ft, vl, td, tn) Ks Lo Wi) (pc' := 0) (st' := []) rfl rfl rfl [0] (lv' := [(0, .ref (ad 0))]) rfl ?_
  refine v_iconst (v := nI 4) F dX8_isPart_0 (by decide) ?_
  refine v_aload_n F dX8_isPart_1 0 rfl rfl ?_
  refine v_get (v := .int (nI tn)) F inlX8 (ci := 8) rfl 10 (by decide) rfl wF_RX8_144 dX8_isPart_2 0 rfl rfl ?_
  refine v_imul F dX8_isPart_5 ?_
  refine v_topi (nI (4 * tn)) (pk_mul 4 tn) ?_
  refine v_istore_n (lv' := [(1, .int (nI (4 * tn))), (0, .ref (ad 0))]) F dX8_isPart_6 1 rfl (by decide) rfl ?_
  refine v_aload_n F dX8_isPart_7 0 rfl rfl ?_
  refine v_cVIF F cs_RX8_147 dX8_isPart_8 0 (ci := 8) rfl rfl (m_X8_isMinus lau G ad N Hs co len Tw i ft vl td tn Ks Lo Wi (by omega) hX) (by decide) rfl rfl (Nat.le_of_ble_eq_true rfl) ⟨Nat.zero_le _, Nat.zero_le _⟩ (fun r1 u2 w3 => ?_)
  subst w3
  rcases tq_minus (ft := ft) (vl := vl) (td := td) (tn := tn) hR with ⟨hb, hq, hR1⟩ | ⟨hb, hq, hx45⟩
  · have hs1 := tk_1 (co := co) (len := len) (i := i + 1) (nu := nu) (m := true) (sl := sl) (off := off) (fi := fi)
    have hi1 := hR1.1
    refine v_w (w' := wM ad G N Hs (co, len) Tw (i + 1, ft, vl, td, tn) Ks Lo Wi) (congrArg (fun z_ => wM ad G N Hs (co, len) Tw z_ Ks Lo Wi) hq) ?_
    refine v_topi (bI true) (congrArg bI hb) ?_
    refine v_istore_n (lv' := [(2, .int (bI true)), (1, .int (nI (4 * tn))), (0, .ref (ad 0))]) F dX8_isPart_11 2 rfl (by decide) rfl ?_
    refine v_aload_n F dX8_isPart_12 0 rfl rfl ?_
    refine v_iconst (v := nI 0) F dX8_isPart_13 (by decide) ?_
    refine v_bipush (v := nI 99) F dX8_isPart_14 (by decide) ?_
    refine v_cVIF F cs_RX8_150 dX8_isPart_16 0 (ci := 8) rfl rfl (m_X8_isSmall lau G ad N Hs co len Tw (i + 1) ft vl td tn Ks Lo Wi 0 99 (by omega) (by omega) (by omega) hX) (by decide) rfl rfl (Nat.le_of_ble_eq_true rfl) ⟨Nat.zero_le _, Nat.zero_le _⟩ (fun r4 u5 w6 => ?_)
    subst w6
    rcases tq_small (K := 2) (ft := ft) (vl := vl) (td := td) (tn := tn) hR1 rfl hs1 tk_2 with ⟨hb2, i2, v2, hq2, hl2, hv2, hR2, hst2⟩ | ⟨hb2, vb_, hq2, hf⟩
    · have hi2 := hR2.1
      refine v_w (w' := wM ad G N Hs (co, len) Tw (i2, ft, v2, td, tn) Ks Lo Wi) (congrArg (fun z_ => wM ad G N Hs (co, len) Tw z_ Ks Lo Wi) hq2) ?_
      refine v_topi (bI true) (congrArg bI hb2) ?_
      refine v_if_eq F 31 dX8_isPart_19 (by decide) (fun h => absurd h (by decide)) (fun _ => ?_)
      refine v_aload_n F dX8_isPart_22 0 rfl rfl ?_
      refine v_bipush (v := nI 120) F dX8_isPart_23 (by decide) ?_
      refine v_cVIF F cs_RX8_153 dX8_isPart_25 0 (ci := 8) rfl rfl (m_X8_isSign lau G ad N Hs co len Tw i2 ft v2 td tn Ks Lo Wi 120 (by omega) (by omega) hX) (by decide) rfl rfl (Nat.le_of_ble_eq_true rfl) ⟨Nat.zero_le _, Nat.zero_le _⟩ (fun r7 u8 w9 => ?_)
      subst w9
      rcases tq_x (ft := ft) (vl := v2) (td := td) (tn := tn) hR2 hst2 with ⟨hb3, hq3, hR3⟩ | ⟨hb3, hq3, hf⟩
      · have hi3 := hR3.1
        refine v_w (w' := wM ad G N Hs (co, len) Tw (i2 + 1, ft, v2, td, tn) Ks Lo Wi) (congrArg (fun z_ => wM ad G N Hs (co, len) Tw z_ Ks Lo Wi) hq3) ?_
        refine v_topi (bI true) (congrArg bI hb3) ?_
        refine v_if_ne F 33 dX8_isPart_28 (by decide) (fun _ => ?_) (fun h => absurd h (by decide))
        refine v_aload_n F dX8_isPart_33 0 rfl rfl ?_
        refine v_get (v := .ref (ad 4)) F inlX8 (ci := 8) rfl 9 (by decide) rfl wF_RX8_19 dX8_isPart_34 0 rfl rfl ?_
        refine v_iload_n F dX8_isPart_37 1 rfl rfl ?_
        refine v_iload_n F dX8_isPart_38 2 rfl rfl ?_
        refine v_if_eq F 50 dX8_isPart_39 (by decide) (fun h => absurd h (by decide)) (fun _ => ?_)
        refine v_aload_n F dX8_isPart_42 0 rfl rfl ?_
        refine v_get (v := .int (nI v2)) F inlX8 (ci := 8) rfl 8 (by decide) rfl wF_RX8_141 dX8_isPart_43 0 rfl rfl ?_
        refine v_ineg F dX8_isPart_46 ?_
        refine v_goto F 54 dX8_isPart_47 (by decide) ?_
        refine v_iastN F dX8_isPart_54 4 rfl (4 * tn) rfl (by omega) (by decide) (wM ad G N Hs (co, len) Tw (i2 + 1, ft, v2, upd td (4 * tn) (-nI v2), tn) Ks Lo Wi) rfl ?_
        refine v_aload_n F dX8_isPart_55 0 rfl rfl ?_
        refine v_bipush (v := nI 45) F dX8_isPart_56 (by decide) ?_
        refine v_bipush (v := nI 45) F dX8_isPart_58 (by decide) ?_
        refine v_cVIF F cs_RX8_131 dX8_isPart_60 0 (ci := 8) rfl rfl (m_X8_isAt lau G ad N Hs co len Tw (i2 + 1) ft v2 (upd td (4 * tn) (-nI v2)) tn Ks Lo Wi 45 45 (by omega) (by omega) (by omega) hX) (by decide) rfl rfl (Nat.le_of_ble_eq_true rfl) ⟨Nat.zero_le _, Nat.zero_le _⟩ (fun r10 u11 w12 => ?_)
        subst w12
        rcases tq_sign hR3 with ⟨hb4, hR5⟩ | ⟨hb4, hx4⟩
        · have hi5 := hR5.1
          refine v_topi (bI true) (congrArg bI hb4) ?_
          refine v_istore_n (lv' := [(2, .int (bI true)), (1, .int (nI (4 * tn))), (0, .ref (ad 0))]) F dX8_isPart_63 2 rfl (by decide) rfl ?_
          refine v_iload_n F dX8_isPart_64 2 rfl rfl ?_
          refine v_if_ne F 84 dX8_isPart_65 (by decide) (fun _ => ?_) (fun h => absurd h (by decide))
          refine v_aload_n F dX8_isPart_84 0 rfl rfl ?_
          refine v_dup F dX8_isPart_85 rfl ?_
          refine v_get (v := .int (nI (i2 + 1))) F inlX8 (ci := 8) rfl 6 (by decide) rfl wF_RX8_125 dX8_isPart_86 0 rfl rfl ?_
          refine v_iconst (v := nI 1) F dX8_isPart_89 (by decide) ?_
          refine v_iadd F dX8_isPart_90 ?_
          refine v_topi (nI ((i2 + 1) + 1)) (nI_add (i2 + 1) 1) ?_
          refine v_put F inlX8 (ci := 8) rfl tyX8 tyX8_ok nmX8 6 (by decide) rfl rfl wF_RX8_125 dX8_isPart_91 (ty := .int) (by decide +kernel) rfl rfl 0 rfl (Nat.le_of_ble_eq_true rfl) (wM ad G N Hs (co, len) Tw ((i2 + 1) + 1, ft, v2, upd td (4 * tn) (-nI v2), tn) Ks Lo Wi) rfl ?_
          refine v_aload_n F dX8_isPart_94 0 rfl rfl ?_
          refine v_cVIF F cs_RX8_156 dX8_isPart_95 0 (ci := 8) rfl rfl (m_X8_isGreat lau G ad N Hs co len Tw ((i2 + 1) + 1) ft v2 (upd td (4 * tn) (-nI v2)) tn Ks Lo Wi (by omega) hX) (by decide) rfl rfl (Nat.le_of_ble_eq_true rfl) ⟨Nat.zero_le _, Nat.zero_le _⟩ (fun r13 u14 w15 => ?_)
          subst w15
          rcases tq_great (ft := ft) (vl := v2) (td := (upd td (4 * tn) (-nI v2))) (tn := tn) hR5 with ⟨hb6, i6, v6, hq6, hl6, hv6, hR6, hst6⟩ | ⟨hb6, hq6, hf⟩
          · have hi6 := hR6.1
            refine v_w (w' := wM ad G N Hs (co, len) Tw (i6, ft, v6, (upd td (4 * tn) (-nI v2)), tn) Ks Lo Wi) (congrArg (fun z_ => wM ad G N Hs (co, len) Tw z_ Ks Lo Wi) hq6) ?_
            refine v_topi (bI true) (congrArg bI hb6) ?_
            refine v_if_ne F 103 dX8_isPart_98 (by decide) (fun _ => ?_) (fun h => absurd h (by decide))
            refine v_aload_n F dX8_isPart_103 0 rfl rfl ?_
            refine v_get (v := .ref (ad 4)) F inlX8 (ci := 8) rfl 9 (by decide) rfl wF_RX8_19 dX8_isPart_104 0 rfl rfl ?_
            refine v_iload_n F dX8_isPart_107 1 rfl rfl ?_
            refine v_iconst (v := nI 1) F dX8_isPart_108 (by decide) ?_
            refine v_iadd F dX8_isPart_109 ?_
            refine v_topi (nI ((4 * tn) + 1)) (nI_add (4 * tn) 1) ?_
            refine v_iload_n F dX8_isPart_110 2 rfl rfl ?_
            refine v_if_eq F 122 dX8_isPart_111 (by decide) (fun h => absurd h (by decide)) (fun _ => ?_)
            refine v_aload_n F dX8_isPart_114 0 rfl rfl ?_
            refine v_get (v := .int (nI v6)) F inlX8 (ci := 8) rfl 8 (by decide) rfl wF_RX8_141 dX8_isPart_115 0 rfl rfl ?_
            refine v_ineg F dX8_isPart_118 ?_
            refine v_goto F 126 dX8_isPart_119 (by decide) ?_
            refine v_iastN F dX8_isPart_126 4 rfl ((4 * tn) + 1) rfl (by omega) (by decide) (wM ad G N Hs (co, len) Tw (i6, ft, v6, upd (upd td (4 * tn) (-nI v2)) ((4 * tn) + 1) (-nI v6), tn) Ks Lo Wi) rfl ?_
            refine v_aload_n F dX8_isPart_127 0 rfl rfl ?_
            refine v_get (v := .ref (ad 4)) F inlX8 (ci := 8) rfl 9 (by decide) rfl wF_RX8_19 dX8_isPart_128 0 rfl rfl ?_
            refine v_iload_n F dX8_isPart_131 1 rfl rfl ?_
            refine v_iconst (v := nI 2) F dX8_isPart_132 (by decide) ?_
            refine v_iadd F dX8_isPart_133 ?_
            refine v_topi (nI ((4 * tn) + 2)) (nI_add (4 * tn) 2) ?_
            refine v_iconst (v := nI 0) F dX8_isPart_134 (by decide) ?_
            refine v_iastN F dX8_isPart_135 4 rfl ((4 * tn) + 2) rfl (by omega) (by decide) (wM ad G N Hs (co, len) Tw (i6, ft, v6, upd (upd (upd td (4 * tn) (-nI v2)) ((4 * tn) + 1) (-nI v6)) ((4 * tn) + 2) (nI 0), tn) Ks Lo Wi) rfl ?_
            refine v_aload_n F dX8_isPart_136 0 rfl rfl ?_
            refine v_get (v := .ref (ad 4)) F inlX8 (ci := 8) rfl 9 (by decide) rfl wF_RX8_19 dX8_isPart_137 0 rfl rfl ?_
            refine v_iload_n F dX8_isPart_140 1 rfl rfl ?_
            refine v_iconst (v := nI 3) F dX8_isPart_141 (by decide) ?_
            refine v_iadd F dX8_isPart_142 ?_
            refine v_topi (nI ((4 * tn) + 3)) (nI_add (4 * tn) 3) ?_
            refine v_bipush (v := nI 99) F dX8_isPart_143 (by decide) ?_
            refine v_iastN F dX8_isPart_145 4 rfl ((4 * tn) + 3) rfl (by omega) (by decide) (wM ad G N Hs (co, len) Tw (i6, ft, v6, upd (upd (upd (upd td (4 * tn) (-nI v2)) ((4 * tn) + 1) (-nI v6)) ((4 * tn) + 2) (nI 0)) ((4 * tn) + 3) (nI 99), tn) Ks Lo Wi) rfl ?_
            refine v_aload_n F dX8_isPart_146 0 rfl rfl ?_
            refine v_bipush (v := nI 64) F dX8_isPart_147 (by decide) ?_
            refine v_bipush (v := nI 64) F dX8_isPart_149 (by decide) ?_
            refine v_cVIF F cs_RX8_131 dX8_isPart_151 0 (ci := 8) rfl rfl (m_X8_isAt lau G ad N Hs co len Tw i6 ft v6 (upd (upd (upd (upd td (4 * tn) (-nI v2)) ((4 * tn) + 1) (-nI v6)) ((4 * tn) + 2) (nI 0)) ((4 * tn) + 3) (nI 99)) tn Ks Lo Wi 64 64 (by omega) (by omega) (by omega) hX) (by decide) rfl rfl (Nat.le_of_ble_eq_true rfl) ⟨Nat.zero_le _, Nat.zero_le _⟩ (fun r16 u17 w18 => ?_)
            subst w18
            rcases tq_at hR6 with ⟨hb7, hR7⟩ | ⟨hb7, hx64⟩
            · have hi7 := hR7.1
              refine v_topi (bI true) (congrArg bI hb7) ?_
              refine v_if_ne F 159 dX8_isPart_154 (by decide) (fun _ => ?_) (fun h => absurd h (by decide))
              refine v_aload_n F dX8_isPart_159 0 rfl rfl ?_
              refine v_dup F dX8_isPart_160 rfl ?_
              refine v_get (v := .int (nI i6)) F inlX8 (ci := 8) rfl 6 (by decide) rfl wF_RX8_125 dX8_isPart_161 0 rfl rfl ?_
              refine v_iconst (v := nI 1) F dX8_isPart_164 (by decide) ?_
              refine v_iadd F dX8_isPart_165 ?_
              refine v_topi (nI (i6 + 1)) (nI_add i6 1) ?_
              refine v_put F inlX8 (ci := 8) rfl tyX8 tyX8_ok nmX8 6 (by decide) rfl rfl wF_RX8_125 dX8_isPart_166 (ty := .int) (by decide +kernel) rfl rfl 0 rfl (Nat.le_of_ble_eq_true rfl) (wM ad G N Hs (co, len) Tw (i6 + 1, ft, v6, upd (upd (upd (upd td (4 * tn) (-nI v2)) ((4 * tn) + 1) (-nI v6)) ((4 * tn) + 2) (nI 0)) ((4 * tn) + 3) (nI 99), tn) Ks Lo Wi) rfl ?_
              refine v_aload_n F dX8_isPart_169 0 rfl rfl ?_
              refine v_iconst (v := nI 0) F dX8_isPart_170 (by decide) ?_
              refine v_bipush (v := nI 99) F dX8_isPart_171 (by decide) ?_
              refine v_cVIF F cs_RX8_150 dX8_isPart_173 0 (ci := 8) rfl rfl (m_X8_isSmall lau G ad N Hs co len Tw (i6 + 1) ft v6 (upd (upd (upd (upd td (4 * tn) (-nI v2)) ((4 * tn) + 1) (-nI v6)) ((4 * tn) + 2) (nI 0)) ((4 * tn) + 3) (nI 99)) tn Ks Lo Wi 0 99 (by omega) (by omega) (by omega) hX) (by decide) rfl rfl (Nat.le_of_ble_eq_true rfl) ⟨Nat.zero_le _, Nat.zero_le _⟩ (fun r19 u20 w21 => ?_)
              subst w21
              rcases tq_small (K := 7) (ft := ft) (vl := v6) (td := (upd (upd (upd (upd td (4 * tn) (-nI v2)) ((4 * tn) + 1) (-nI v6)) ((4 * tn) + 2) (nI 0)) ((4 * tn) + 3) (nI 99))) (tn := tn) hR7 rfl tk_6 tk_7 with ⟨hb8, i8, v8, hq8, hl8, hv8, hR8, hst8⟩ | ⟨hb8, vb_, hq8, hf⟩
              · have hi8 := hR8.1
                refine v_w (w' := wM ad G N Hs (co, len) Tw (i8, ft, v8, (upd (upd (upd (upd td (4 * tn) (-nI v2)) ((4 * tn) + 1) (-nI v6)) ((4 * tn) + 2) (nI 0)) ((4 * tn) + 3) (nI 99)), tn) Ks Lo Wi) (congrArg (fun z_ => wM ad G N Hs (co, len) Tw z_ Ks Lo Wi) hq8) ?_
                refine v_topi (bI true) (congrArg bI hb8) ?_
                refine v_if_ne F 181 dX8_isPart_176 (by decide) (fun _ => ?_) (fun h => absurd h (by decide))
                refine v_aload_n F dX8_isPart_181 0 rfl rfl ?_
                refine v_get (v := .ref (ad 4)) F inlX8 (ci := 8) rfl 9 (by decide) rfl wF_RX8_19 dX8_isPart_182 0 rfl rfl ?_
                refine v_iload_n F dX8_isPart_185 1 rfl rfl ?_
                refine v_iconst (v := nI 2) F dX8_isPart_186 (by decide) ?_
                refine v_iadd F dX8_isPart_187 ?_
                refine v_topi (nI ((4 * tn) + 2)) (nI_add (4 * tn) 2) ?_
                refine v_aload_n F dX8_isPart_188 0 rfl rfl ?_
                refine v_get (v := .int (nI v8)) F inlX8 (ci := 8) rfl 8 (by decide) rfl wF_RX8_141 dX8_isPart_189 0 rfl rfl ?_
                refine v_iastN F dX8_isPart_192 4 rfl ((4 * tn) + 2) rfl (by omega) (by decide) (wM ad G N Hs (co, len) Tw (i8, ft, v8, upd (upd (upd (upd (upd td (4 * tn) (-nI v2)) ((4 * tn) + 1) (-nI v6)) ((4 * tn) + 2) (nI 0)) ((4 * tn) + 3) (nI 99)) ((4 * tn) + 2) (nI v8), tn) Ks Lo Wi) rfl ?_
                refine v_aload_n F dX8_isPart_193 0 rfl rfl ?_
                refine v_bipush (v := nI 45) F dX8_isPart_194 (by decide) ?_
                refine v_cVIF F cs_RX8_153 dX8_isPart_196 0 (ci := 8) rfl rfl (m_X8_isSign lau G ad N Hs co len Tw i8 ft v8 (upd (upd (upd (upd (upd td (4 * tn) (-nI v2)) ((4 * tn) + 1) (-nI v6)) ((4 * tn) + 2) (nI 0)) ((4 * tn) + 3) (nI 99)) ((4 * tn) + 2) (nI v8)) tn Ks Lo Wi 45 (by omega) (by omega) hX) (by decide) rfl rfl (Nat.le_of_ble_eq_true rfl) ⟨Nat.zero_le _, Nat.zero_le _⟩ (fun r22 u23 w24 => ?_)
                subst w24
                rcases tq_dash (ft := ft) (vl := v8) (td := (upd (upd (upd (upd (upd td (4 * tn) (-nI v2)) ((4 * tn) + 1) (-nI v6)) ((4 * tn) + 2) (nI 0)) ((4 * tn) + 3) (nI 99)) ((4 * tn) + 2) (nI v8))) (tn := tn) hR8 hst8 with ⟨hb9, hq9, hR9⟩ | ⟨hb9, hq9, hf⟩
                · have hi9 := hR9.1
                  refine v_w (w' := wM ad G N Hs (co, len) Tw (i8 + 1, ft, v8, (upd (upd (upd (upd (upd td (4 * tn) (-nI v2)) ((4 * tn) + 1) (-nI v6)) ((4 * tn) + 2) (nI 0)) ((4 * tn) + 3) (nI 99)) ((4 * tn) + 2) (nI v8)), tn) Ks Lo Wi) (congrArg (fun z_ => wM ad G N Hs (co, len) Tw z_ Ks Lo Wi) hq9) ?_
                  refine v_topi (bI true) (congrArg bI hb9) ?_
                  refine v_if_eq F 219 dX8_isPart_199 (by decide) (fun h => absurd h (by decide)) (fun _ => ?_)
                  refine v_aload_n F dX8_isPart_202 0 rfl rfl ?_
                  refine v_aload_n F dX8_isPart_203 0 rfl rfl ?_
                  refine v_get (v := .ref (ad 4)) F inlX8 (ci := 8) rfl 9 (by decide) rfl wF_RX8_19 dX8_isPart_204 0 rfl rfl ?_
                  refine v_iload_n F dX8_isPart_207 1 rfl rfl ?_
                  refine v_iconst (v := nI 2) F dX8_isPart_208 (by decide) ?_
                  refine v_iadd F dX8_isPart_209 ?_
                  refine v_topi (nI ((4 * tn) + 2)) (nI_add (4 * tn) 2) ?_
                  refine v_ialdN F dX8_isPart_210 4 rfl ((4 * tn) + 2) rfl (by omega) (by decide) ((upd (upd (upd (upd (upd td (4 * tn) (-nI v2)) ((4 * tn) + 1) (-nI v6)) ((4 * tn) + 2) (nI 0)) ((4 * tn) + 3) (nI 99)) ((4 * tn) + 2) (nI v8)) ((4 * tn) + 2)) rfl ?_
                  refine v_topi (nI v8) (by rw [upd_s]) ?_
                  refine v_bipush (v := nI 99) F dX8_isPart_211 (by decide) ?_
                  refine v_cVIF F cs_RX8_150 dX8_isPart_213 0 (ci := 8) rfl rfl (m_X8_isSmall lau G ad N Hs co len Tw (i8 + 1) ft v8 (upd (upd (upd (upd (upd td (4 * tn) (-nI v2)) ((4 * tn) + 1) (-nI v6)) ((4 * tn) + 2) (nI 0)) ((4 * tn) + 3) (nI 99)) ((4 * tn) + 2) (nI v8)) tn Ks Lo Wi v8 99 (by omega) (by omega) (by omega) hX) (by decide) rfl rfl (Nat.le_of_ble_eq_true rfl) ⟨Nat.zero_le _, Nat.zero_le _⟩ (fun r25 u26 w27 => ?_)
                  subst w27
                  rcases tq_last (ft := ft) (vl := v8) (td := (upd (upd (upd (upd (upd td (4 * tn) (-nI v2)) ((4 * tn) + 1) (-nI v6)) ((4 * tn) + 2) (nI 0)) ((4 * tn) + 3) (nI 99)) ((4 * tn) + 2) (nI v8))) (tn := tn) hR9 hv8 with ⟨hb10, i10, v10, hq10, hl10, hv10a, hv10, hR10, hst10⟩ | ⟨hb10, i10, vb_, hq10, hf⟩
                  · have hi10 := hR10.1
                    refine v_w (w' := wM ad G N Hs (co, len) Tw (i10, ft, v10, (upd (upd (upd (upd (upd td (4 * tn) (-nI v2)) ((4 * tn) + 1) (-nI v6)) ((4 * tn) + 2) (nI 0)) ((4 * tn) + 3) (nI 99)) ((4 * tn) + 2) (nI v8)), tn) Ks Lo Wi) (congrArg (fun z_ => wM ad G N Hs (co, len) Tw z_ Ks Lo Wi) hq10) ?_
                    refine v_topi (bI true) (congrArg bI hb10) ?_
                    refine v_if_ne F 221 dX8_isPart_216 (by decide) (fun _ => ?_) (fun h => absurd h (by decide))
                    refine v_aload_n F dX8_isPart_221 0 rfl rfl ?_
                    refine v_get (v := .ref (ad 4)) F inlX8 (ci := 8) rfl 9 (by decide) rfl wF_RX8_19 dX8_isPart_222 0 rfl rfl ?_
                    refine v_iload_n F dX8_isPart_225 1 rfl rfl ?_
                    refine v_iconst (v := nI 3) F dX8_isPart_226 (by decide) ?_
                    refine v_iadd F dX8_isPart_227 ?_
                    refine v_topi (nI ((4 * tn) + 3)) (nI_add (4 * tn) 3) ?_
                    refine v_aload_n F dX8_isPart_228 0 rfl rfl ?_
                    refine v_get (v := .int (nI v10)) F inlX8 (ci := 8) rfl 8 (by decide) rfl wF_RX8_141 dX8_isPart_229 0 rfl rfl ?_
                    refine v_iastN F dX8_isPart_232 4 rfl ((4 * tn) + 3) rfl (by omega) (by decide) (wM ad G N Hs (co, len) Tw (i10, ft, v10, upd (upd (upd (upd (upd (upd td (4 * tn) (-nI v2)) ((4 * tn) + 1) (-nI v6)) ((4 * tn) + 2) (nI 0)) ((4 * tn) + 3) (nI 99)) ((4 * tn) + 2) (nI v8)) ((4 * tn) + 3) (nI v10), tn) Ks Lo Wi) rfl ?_
                    refine v_iconst (v := nI 1) F dX8_isPart_233 (by decide) ?_
                    exact v_zret F hr hlk hQ rfl dX8_isPart_234 ((true, i10, ft, v10, upd (upd (upd (upd (upd (upd td (4 * tn) (-nI v2)) ((4 * tn) + 1) (-nI v6)) ((4 * tn) + 2) (nI 0)) ((4 * tn) + 3) (nI 99)) ((4 * tn) + 2) (nI v8)) ((4 * tn) + 3) (nI v10))) rfl (by exact ⟨rfl, PP_2 (by omega) hR10 hst10 hv10a⟩)
                  · refine v_w (w' := wM ad G N Hs (co, len) Tw (i10, decide (i10 < len), vb_, (upd (upd (upd (upd (upd td (4 * tn) (-nI v2)) ((4 * tn) + 1) (-nI v6)) ((4 * tn) + 2) (nI 0)) ((4 * tn) + 3) (nI 99)) ((4 * tn) + 2) (nI v8)), tn) Ks Lo Wi) (congrArg (fun z_ => wM ad G N Hs (co, len) Tw z_ Ks Lo Wi) hq10) ?_
                    refine v_topi (bI false) (congrArg bI hb10) ?_
                    refine v_if_ne F 221 dX8_isPart_216 (by decide) (fun h => absurd h (by decide)) (fun _ => ?_)
                    refine v_iconst (v := nI 0) F dX8_isPart_219 (by decide) ?_
                    exact v_zret F hr hlk hQ rfl dX8_isPart_220 ((false, i10, decide (i10 < len), vb_, (upd (upd (upd (upd (upd td (4 * tn) (-nI v2)) ((4 * tn) + 1) (-nI v6)) ((4 * tn) + 2) (nI 0)) ((4 * tn) + 3) (nI 99)) ((4 * tn) + 2) (nI v8)))) rfl (by exact ⟨rfl, PP_f hf⟩)
                · refine v_w (w' := wM ad G N Hs (co, len) Tw (i8, decide (i8 < len), v8, (upd (upd (upd (upd (upd td (4 * tn) (-nI v2)) ((4 * tn) + 1) (-nI v6)) ((4 * tn) + 2) (nI 0)) ((4 * tn) + 3) (nI 99)) ((4 * tn) + 2) (nI v8)), tn) Ks Lo Wi) (congrArg (fun z_ => wM ad G N Hs (co, len) Tw z_ Ks Lo Wi) hq9) ?_
                  refine v_topi (bI false) (congrArg bI hb9) ?_
                  refine v_if_eq F 219 dX8_isPart_199 (by decide) (fun _ => ?_) (fun h => absurd h (by decide))
                  refine v_iconst (v := nI 0) F dX8_isPart_219 (by decide) ?_
                  exact v_zret F hr hlk hQ rfl dX8_isPart_220 ((false, i8, decide (i8 < len), v8, (upd (upd (upd (upd (upd td (4 * tn) (-nI v2)) ((4 * tn) + 1) (-nI v6)) ((4 * tn) + 2) (nI 0)) ((4 * tn) + 3) (nI 99)) ((4 * tn) + 2) (nI v8)))) rfl (by exact ⟨rfl, PP_f hf⟩)
              · refine v_w (w' := wM ad G N Hs (co, len) Tw (i6 + 1, decide (i6 + 1 < len), vb_, (upd (upd (upd (upd td (4 * tn) (-nI v2)) ((4 * tn) + 1) (-nI v6)) ((4 * tn) + 2) (nI 0)) ((4 * tn) + 3) (nI 99)), tn) Ks Lo Wi) (congrArg (fun z_ => wM ad G N Hs (co, len) Tw z_ Ks Lo Wi) hq8) ?_
                refine v_topi (bI false) (congrArg bI hb8) ?_
                refine v_if_ne F 181 dX8_isPart_176 (by decide) (fun h => absurd h (by decide)) (fun _ => ?_)
                refine v_iconst (v := nI 0) F dX8_isPart_179 (by decide) ?_
                exact v_zret F hr hlk hQ rfl dX8_isPart_180 ((false, i6 + 1, decide (i6 + 1 < len), vb_, (upd (upd (upd (upd td (4 * tn) (-nI v2)) ((4 * tn) + 1) (-nI v6)) ((4 * tn) + 2) (nI 0)) ((4 * tn) + 3) (nI 99)))) rfl (by exact ⟨rfl, PP_f hf⟩)
            · refine v_topi (bI false) (congrArg bI hb7) ?_
              refine v_if_ne F 159 dX8_isPart_154 (by decide) (fun h => absurd h (by decide)) (fun _ => ?_)
              refine v_iconst (v := nI 1) F dX8_isPart_157 (by decide) ?_
              exact v_zret F hr hlk hQ rfl dX8_isPart_158 ((true, i6, ft, v6, upd (upd (upd (upd td (4 * tn) (-nI v2)) ((4 * tn) + 1) (-nI v6)) ((4 * tn) + 2) (nI 0)) ((4 * tn) + 3) (nI 99))) rfl (by exact ⟨rfl, PP_1 (by omega) hR6 hst6 hx64⟩)
          · refine v_w (w' := wM ad G N Hs (co, len) Tw (i2 + 1 + 1, decide (i2 + 1 + 1 < len), v2, (upd td (4 * tn) (-nI v2)), tn) Ks Lo Wi) (congrArg (fun z_ => wM ad G N Hs (co, len) Tw z_ Ks Lo Wi) hq6) ?_
            refine v_topi (bI false) (congrArg bI hb6) ?_
            refine v_if_ne F 103 dX8_isPart_98 (by decide) (fun h => absurd h (by decide)) (fun _ => ?_)
            refine v_iconst (v := nI 0) F dX8_isPart_101 (by decide) ?_
            exact v_zret F hr hlk hQ rfl dX8_isPart_102 ((false, i2 + 1 + 1, decide (i2 + 1 + 1 < len), v2, (upd td (4 * tn) (-nI v2)))) rfl (by exact ⟨rfl, PP_f hf⟩)
        · refine v_topi (bI false) (congrArg bI hb4) ?_
          refine v_istore_n (lv' := [(2, .int (bI false)), (1, .int (nI (4 * tn))), (0, .ref (ad 0))]) F dX8_isPart_63 2 rfl (by decide) rfl ?_
          refine v_iload_n F dX8_isPart_64 2 rfl rfl ?_
          refine v_if_ne F 84 dX8_isPart_65 (by decide) (fun h => absurd h (by decide)) (fun _ => ?_)
          refine v_aload_n F dX8_isPart_68 0 rfl rfl ?_
          refine v_bipush (v := nI 43) F dX8_isPart_69 (by decide) ?_
          refine v_bipush (v := nI 43) F dX8_isPart_71 (by decide) ?_
          refine v_cVIF F cs_RX8_131 dX8_isPart_73 0 (ci := 8) rfl rfl (m_X8_isAt lau G ad N Hs co len Tw (i2 + 1) ft v2 (upd td (4 * tn) (-nI v2)) tn Ks Lo Wi 43 43 (by omega) (by omega) (by omega) hX) (by decide) rfl rfl (Nat.le_of_ble_eq_true rfl) ⟨Nat.zero_le _, Nat.zero_le _⟩ (fun r28 u29 w30 => ?_)
          subst w30
          rcases tq_plus hR3 hx4 with ⟨hb5, hR5⟩ | ⟨hb5, hf⟩
          · have hi5 := hR5.1
            refine v_topi (bI true) (congrArg bI hb5) ?_
            refine v_if_ne F 84 dX8_isPart_76 (by decide) (fun _ => ?_) (fun h => absurd h (by decide))
            refine v_aload_n F dX8_isPart_84 0 rfl rfl ?_
            refine v_dup F dX8_isPart_85 rfl ?_
            refine v_get (v := .int (nI (i2 + 1))) F inlX8 (ci := 8) rfl 6 (by decide) rfl wF_RX8_125 dX8_isPart_86 0 rfl rfl ?_
            refine v_iconst (v := nI 1) F dX8_isPart_89 (by decide) ?_
            refine v_iadd F dX8_isPart_90 ?_
            refine v_topi (nI ((i2 + 1) + 1)) (nI_add (i2 + 1) 1) ?_
            refine v_put F inlX8 (ci := 8) rfl tyX8 tyX8_ok nmX8 6 (by decide) rfl rfl wF_RX8_125 dX8_isPart_91 (ty := .int) (by decide +kernel) rfl rfl 0 rfl (Nat.le_of_ble_eq_true rfl) (wM ad G N Hs (co, len) Tw ((i2 + 1) + 1, ft, v2, upd td (4 * tn) (-nI v2), tn) Ks Lo Wi) rfl ?_
            refine v_aload_n F dX8_isPart_94 0 rfl rfl ?_
            refine v_cVIF F cs_RX8_156 dX8_isPart_95 0 (ci := 8) rfl rfl (m_X8_isGreat lau G ad N Hs co len Tw ((i2 + 1) + 1) ft v2 (upd td (4 * tn) (-nI v2)) tn Ks Lo Wi (by omega) hX) (by decide) rfl rfl (Nat.le_of_ble_eq_true rfl) ⟨Nat.zero_le _, Nat.zero_le _⟩ (fun r31 u32 w33 => ?_)
            subst w33
            rcases tq_great (ft := ft) (vl := v2) (td := (upd td (4 * tn) (-nI v2))) (tn := tn) hR5 with ⟨hb6, i6, v6, hq6, hl6, hv6, hR6, hst6⟩ | ⟨hb6, hq6, hf⟩
            · have hi6 := hR6.1
              refine v_w (w' := wM ad G N Hs (co, len) Tw (i6, ft, v6, (upd td (4 * tn) (-nI v2)), tn) Ks Lo Wi) (congrArg (fun z_ => wM ad G N Hs (co, len) Tw z_ Ks Lo Wi) hq6) ?_
              refine v_topi (bI true) (congrArg bI hb6) ?_
              refine v_if_ne F 103 dX8_isPart_98 (by decide) (fun _ => ?_) (fun h => absurd h (by decide))
              refine v_aload_n F dX8_isPart_103 0 rfl rfl ?_
              refine v_get (v := .ref (ad 4)) F inlX8 (ci := 8) rfl 9 (by decide) rfl wF_RX8_19 dX8_isPart_104 0 rfl rfl ?_
              refine v_iload_n F dX8_isPart_107 1 rfl rfl ?_
              refine v_iconst (v := nI 1) F dX8_isPart_108 (by decide) ?_
              refine v_iadd F dX8_isPart_109 ?_
              refine v_topi (nI ((4 * tn) + 1)) (nI_add (4 * tn) 1) ?_
              refine v_iload_n F dX8_isPart_110 2 rfl rfl ?_
              refine v_if_eq F 122 dX8_isPart_111 (by decide) (fun _ => ?_) (fun h => absurd h (by decide))
              refine v_aload_n F dX8_isPart_122 0 rfl rfl ?_
              refine v_get (v := .int (nI v6)) F inlX8 (ci := 8) rfl 8 (by decide) rfl wF_RX8_141 dX8_isPart_123 0 rfl rfl ?_
              refine v_iastN F dX8_isPart_126 4 rfl ((4 * tn) + 1) rfl (by omega) (by decide) (wM ad G N Hs (co, len) Tw (i6, ft, v6, upd (upd td (4 * tn) (-nI v2)) ((4 * tn) + 1) (nI v6), tn) Ks Lo Wi) rfl ?_
              refine v_aload_n F dX8_isPart_127 0 rfl rfl ?_
              refine v_get (v := .ref (ad 4)) F inlX8 (ci := 8) rfl 9 (by decide) rfl wF_RX8_19 dX8_isPart_128 0 rfl rfl ?_
              refine v_iload_n F dX8_isPart_131 1 rfl rfl ?_
              refine v_iconst (v := nI 2) F dX8_isPart_132 (by decide) ?_
              refine v_iadd F dX8_isPart_133 ?_
              refine v_topi (nI ((4 * tn) + 2)) (nI_add (4 * tn) 2) ?_
              refine v_iconst (v := nI 0) F dX8_isPart_134 (by decide) ?_
              refine v_iastN F dX8_isPart_135 4 rfl ((4 * tn) + 2) rfl (by omega) (by decide) (wM ad G N Hs (co, len) Tw (i6, ft, v6, upd (upd (upd td (4 * tn) (-nI v2)) ((4 * tn) + 1) (nI v6)) ((4 * tn) + 2) (nI 0), tn) Ks Lo Wi) rfl ?_
              refine v_aload_n F dX8_isPart_136 0 rfl rfl ?_
              refine v_get (v := .ref (ad 4)) F inlX8 (ci := 8) rfl 9 (by decide) rfl wF_RX8_19 dX8_isPart_137 0 rfl rfl ?_
              refine v_iload_n F dX8_isPart_140 1 rfl rfl ?_
              refine v_iconst (v := nI 3) F dX8_isPart_141 (by decide) ?_
              refine v_iadd F dX8_isPart_142 ?_
              refine v_topi (nI ((4 * tn) + 3)) (nI_add (4 * tn) 3) ?_
              refine v_bipush (v := nI 99) F dX8_isPart_143 (by decide) ?_
              refine v_iastN F dX8_isPart_145 4 rfl ((4 * tn) + 3) rfl (by omega) (by decide) (wM ad G N Hs (co, len) Tw (i6, ft, v6, upd (upd (upd (upd td (4 * tn) (-nI v2)) ((4 * tn) + 1) (nI v6)) ((4 * tn) + 2) (nI 0)) ((4 * tn) + 3) (nI 99), tn) Ks Lo Wi) rfl ?_
              refine v_aload_n F dX8_isPart_146 0 rfl rfl ?_
              refine v_bipush (v := nI 64) F dX8_isPart_147 (by decide) ?_
              refine v_bipush (v := nI 64) F dX8_isPart_149 (by decide) ?_
              refine v_cVIF F cs_RX8_131 dX8_isPart_151 0 (ci := 8) rfl rfl (m_X8_isAt lau G ad N Hs co len Tw i6 ft v6 (upd (upd (upd (upd td (4 * tn) (-nI v2)) ((4 * tn) + 1) (nI v6)) ((4 * tn) + 2) (nI 0)) ((4 * tn) + 3) (nI 99)) tn Ks Lo Wi 64 64 (by omega) (by omega) (by omega) hX) (by decide) rfl rfl (Nat.le_of_ble_eq_true rfl) ⟨Nat.zero_le _, Nat.zero_le _⟩ (fun r34 u35 w36 => ?_)
              subst w36
              rcases tq_at hR6 with ⟨hb7, hR7⟩ | ⟨hb7, hx64⟩
              · have hi7 := hR7.1
                refine v_topi (bI true) (congrArg bI hb7) ?_
                refine v_if_ne F 159 dX8_isPart_154 (by decide) (fun _ => ?_) (fun h => absurd h (by decide))
                refine v_aload_n F dX8_isPart_159 0 rfl rfl ?_
                refine v_dup F dX8_isPart_160 rfl ?_
                refine v_get (v := .int (nI i6)) F inlX8 (ci := 8) rfl 6 (by decide) rfl wF_RX8_125 dX8_isPart_161 0 rfl rfl ?_
                refine v_iconst (v := nI 1) F dX8_isPart_164 (by decide) ?_
                refine v_iadd F dX8_isPart_165 ?_
                refine v_topi (nI (i6 + 1)) (nI_add i6 1) ?_
                refine v_put F inlX8 (ci := 8) rfl tyX8 tyX8_ok nmX8 6 (by decide) rfl rfl wF_RX8_125 dX8_isPart_166 (ty := .int) (by decide +kernel) rfl rfl 0 rfl (Nat.le_of_ble_eq_true rfl) (wM ad G N Hs (co, len) Tw (i6 + 1, ft, v6, upd (upd (upd (upd td (4 * tn) (-nI v2)) ((4 * tn) + 1) (nI v6)) ((4 * tn) + 2) (nI 0)) ((4 * tn) + 3) (nI 99), tn) Ks Lo Wi) rfl ?_
                refine v_aload_n F dX8_isPart_169 0 rfl rfl ?_
                refine v_iconst (v := nI 0) F dX8_isPart_170 (by decide) ?_
                refine v_bipush (v := nI 99) F dX8_isPart_171 (by decide) ?_
                refine v_cVIF F cs_RX8_150 dX8_isPart_173 0 (ci := 8) rfl rfl (m_X8_isSmall lau G ad N Hs co len Tw (i6 + 1) ft v6 (upd (upd (upd (upd td (4 * tn) (-nI v2)) ((4 * tn) + 1) (nI v6)) ((4 * tn) + 2) (nI 0)) ((4 * tn) + 3) (nI 99)) tn Ks Lo Wi 0 99 (by omega) (by omega) (by omega) hX) (by decide) rfl rfl (Nat.le_of_ble_eq_true rfl) ⟨Nat.zero_le _, Nat.zero_le _⟩ (fun r37 u38 w39 => ?_)
                subst w39
                rcases tq_small (K := 7) (ft := ft) (vl := v6) (td := (upd (upd (upd (upd td (4 * tn) (-nI v2)) ((4 * tn) + 1) (nI v6)) ((4 * tn) + 2) (nI 0)) ((4 * tn) + 3) (nI 99))) (tn := tn) hR7 rfl tk_6 tk_7 with ⟨hb8, i8, v8, hq8, hl8, hv8, hR8, hst8⟩ | ⟨hb8, vb_, hq8, hf⟩
                · have hi8 := hR8.1
                  refine v_w (w' := wM ad G N Hs (co, len) Tw (i8, ft, v8, (upd (upd (upd (upd td (4 * tn) (-nI v2)) ((4 * tn) + 1) (nI v6)) ((4 * tn) + 2) (nI 0)) ((4 * tn) + 3) (nI 99)), tn) Ks Lo Wi) (congrArg (fun z_ => wM ad G N Hs (co, len) Tw z_ Ks Lo Wi) hq8) ?_
                  refine v_topi (bI true) (congrArg bI hb8) ?_
                  refine v_if_ne F 181 dX8_isPart_176 (by decide) (fun _ => ?_) (fun h => absurd h (by decide))
                  refine v_aload_n F dX8_isPart_181 0 rfl rfl ?_
                  refine v_get (v := .ref (ad 4)) F inlX8 (ci := 8) rfl 9 (by decide) rfl wF_RX8_19 dX8_isPart_182 0 rfl rfl ?_
                  refine v_iload_n F dX8_isPart_185 1 rfl rfl ?_
                  refine v_iconst (v := nI 2) F dX8_isPart_186 (by decide) ?_
                  refine v_iadd F dX8_isPart_187 ?_
                  refine v_topi (nI ((4 * tn) + 2)) (nI_add (4 * tn) 2) ?_
                  refine v_aload_n F dX8_isPart_188 0 rfl rfl ?_
                  refine v_get (v := .int (nI v8)) F inlX8 (ci := 8) rfl 8 (by decide) rfl wF_RX8_141 dX8_isPart_189 0 rfl rfl ?_
                  refine v_iastN F dX8_isPart_192 4 rfl ((4 * tn) + 2) rfl (by omega) (by decide) (wM ad G N Hs (co, len) Tw (i8, ft, v8, upd (upd (upd (upd (upd td (4 * tn) (-nI v2)) ((4 * tn) + 1) (nI v6)) ((4 * tn) + 2) (nI 0)) ((4 * tn) + 3) (nI 99)) ((4 * tn) + 2) (nI v8), tn) Ks Lo Wi) rfl ?_
                  refine v_aload_n F dX8_isPart_193 0 rfl rfl ?_
                  refine v_bipush (v := nI 45) F dX8_isPart_194 (by decide) ?_
                  refine v_cVIF F cs_RX8_153 dX8_isPart_196 0 (ci := 8) rfl rfl (m_X8_isSign lau G ad N Hs co len Tw i8 ft v8 (upd (upd (upd (upd (upd td (4 * tn) (-nI v2)) ((4 * tn) + 1) (nI v6)) ((4 * tn) + 2) (nI 0)) ((4 * tn) + 3) (nI 99)) ((4 * tn) + 2) (nI v8)) tn Ks Lo Wi 45 (by omega) (by omega) hX) (by decide) rfl rfl (Nat.le_of_ble_eq_true rfl) ⟨Nat.zero_le _, Nat.zero_le _⟩ (fun r40 u41 w42 => ?_)
                  subst w42
                  rcases tq_dash (ft := ft) (vl := v8) (td := (upd (upd (upd (upd (upd td (4 * tn) (-nI v2)) ((4 * tn) + 1) (nI v6)) ((4 * tn) + 2) (nI 0)) ((4 * tn) + 3) (nI 99)) ((4 * tn) + 2) (nI v8))) (tn := tn) hR8 hst8 with ⟨hb9, hq9, hR9⟩ | ⟨hb9, hq9, hf⟩
                  · have hi9 := hR9.1
                    refine v_w (w' := wM ad G N Hs (co, len) Tw (i8 + 1, ft, v8, (upd (upd (upd (upd (upd td (4 * tn) (-nI v2)) ((4 * tn) + 1) (nI v6)) ((4 * tn) + 2) (nI 0)) ((4 * tn) + 3) (nI 99)) ((4 * tn) + 2) (nI v8)), tn) Ks Lo Wi) (congrArg (fun z_ => wM ad G N Hs (co, len) Tw z_ Ks Lo Wi) hq9) ?_
                    refine v_topi (bI true) (congrArg bI hb9) ?_
                    refine v_if_eq F 219 dX8_isPart_199 (by decide) (fun h => absurd h (by decide)) (fun _ => ?_)
                    refine v_aload_n F dX8_isPart_202 0 rfl rfl ?_
                    refine v_aload_n F dX8_isPart_203 0 rfl rfl ?_
                    refine v_get (v := .ref (ad 4)) F inlX8 (ci := 8) rfl 9 (by decide) rfl wF_RX8_19 dX8_isPart_204 0 rfl rfl ?_
                    refine v_iload_n F dX8_isPart_207 1 rfl rfl ?_
                    refine v_iconst (v := nI 2) F dX8_isPart_208 (by decide) ?_
                    refine v_iadd F dX8_isPart_209 ?_
                    refine v_topi (nI ((4 * tn) + 2)) (nI_add (4 * tn) 2) ?_
                    refine v_ialdN F dX8_isPart_210 4 rfl ((4 * tn) + 2) rfl (by omega) (by decide) ((upd (upd (upd (upd (upd td (4 * tn) (-nI v2)) ((4 * tn) + 1) (nI v6)) ((4 * tn) + 2) (nI 0)) ((4 * tn) + 3) (nI 99)) ((4 * tn) + 2) (nI v8)) ((4 * tn) + 2)) rfl ?_
                    refine v_topi (nI v8) (by rw [upd_s]) ?_
                    refine v_bipush (v := nI 99) F dX8_isPart_211 (by decide) ?_
                    refine v_cVIF F cs_RX8_150 dX8_isPart_213 0 (ci := 8) rfl rfl (m_X8_isSmall lau G ad N Hs co len Tw (i8 + 1) ft v8 (upd (upd (upd (upd (upd td (4 * tn) (-nI v2)) ((4 * tn) + 1) (nI v6)) ((4 * tn) + 2) (nI 0)) ((4 * tn) + 3) (nI 99)) ((4 * tn) + 2) (nI v8)) tn Ks Lo Wi v8 99 (by omega) (by omega) (by omega) hX) (by decide) rfl rfl (Nat.le_of_ble_eq_true rfl) ⟨Nat.zero_le _, Nat.zero_le _⟩ (fun r43 u44 w45 => ?_)
                    subst w45
                    rcases tq_last (ft := ft) (vl := v8) (td := (upd (upd (upd (upd (upd td (4 * tn) (-nI v2)) ((4 * tn) + 1) (nI v6)) ((4 * tn) + 2) (nI 0)) ((4 * tn) + 3) (nI 99)) ((4 * tn) + 2) (nI v8))) (tn := tn) hR9 hv8 with ⟨hb10, i10, v10, hq10, hl10, hv10a, hv10, hR10, hst10⟩ | ⟨hb10, i10, vb_, hq10, hf⟩
                    · have hi10 := hR10.1
                      refine v_w (w' := wM ad G N Hs (co, len) Tw (i10, ft, v10, (upd (upd (upd (upd (upd td (4 * tn) (-nI v2)) ((4 * tn) + 1) (nI v6)) ((4 * tn) + 2) (nI 0)) ((4 * tn) + 3) (nI 99)) ((4 * tn) + 2) (nI v8)), tn) Ks Lo Wi) (congrArg (fun z_ => wM ad G N Hs (co, len) Tw z_ Ks Lo Wi) hq10) ?_
                      refine v_topi (bI true) (congrArg bI hb10) ?_
                      refine v_if_ne F 221 dX8_isPart_216 (by decide) (fun _ => ?_) (fun h => absurd h (by decide))
                      refine v_aload_n F dX8_isPart_221 0 rfl rfl ?_
                      refine v_get (v := .ref (ad 4)) F inlX8 (ci := 8) rfl 9 (by decide) rfl wF_RX8_19 dX8_isPart_222 0 rfl rfl ?_
                      refine v_iload_n F dX8_isPart_225 1 rfl rfl ?_
                      refine v_iconst (v := nI 3) F dX8_isPart_226 (by decide) ?_
                      refine v_iadd F dX8_isPart_227 ?_
                      refine v_topi (nI ((4 * tn) + 3)) (nI_add (4 * tn) 3) ?_
                      refine v_aload_n F dX8_isPart_228 0 rfl rfl ?_
                      refine v_get (v := .int (nI v10)) F inlX8 (ci := 8) rfl 8 (by decide) rfl wF_RX8_141 dX8_isPart_229 0 rfl rfl ?_
                      refine v_iastN F dX8_isPart_232 4 rfl ((4 * tn) + 3) rfl (by omega) (by decide) (wM ad G N Hs (co, len) Tw (i10, ft, v10, upd (upd (upd (upd (upd (upd td (4 * tn) (-nI v2)) ((4 * tn) + 1) (nI v6)) ((4 * tn) + 2) (nI 0)) ((4 * tn) + 3) (nI 99)) ((4 * tn) + 2) (nI v8)) ((4 * tn) + 3) (nI v10), tn) Ks Lo Wi) rfl ?_
                      refine v_iconst (v := nI 1) F dX8_isPart_233 (by decide) ?_
                      exact v_zret F hr hlk hQ rfl dX8_isPart_234 ((true, i10, ft, v10, upd (upd (upd (upd (upd (upd td (4 * tn) (-nI v2)) ((4 * tn) + 1) (nI v6)) ((4 * tn) + 2) (nI 0)) ((4 * tn) + 3) (nI 99)) ((4 * tn) + 2) (nI v8)) ((4 * tn) + 3) (nI v10))) rfl (by exact ⟨rfl, PP_2 (by omega) hR10 hst10 hv10a⟩)
                    · refine v_w (w' := wM ad G N Hs (co, len) Tw (i10, decide (i10 < len), vb_, (upd (upd (upd (upd (upd td (4 * tn) (-nI v2)) ((4 * tn) + 1) (nI v6)) ((4 * tn) + 2) (nI 0)) ((4 * tn) + 3) (nI 99)) ((4 * tn) + 2) (nI v8)), tn) Ks Lo Wi) (congrArg (fun z_ => wM ad G N Hs (co, len) Tw z_ Ks Lo Wi) hq10) ?_
                      refine v_topi (bI false) (congrArg bI hb10) ?_
                      refine v_if_ne F 221 dX8_isPart_216 (by decide) (fun h => absurd h (by decide)) (fun _ => ?_)
                      refine v_iconst (v := nI 0) F dX8_isPart_219 (by decide) ?_
                      exact v_zret F hr hlk hQ rfl dX8_isPart_220 ((false, i10, decide (i10 < len), vb_, (upd (upd (upd (upd (upd td (4 * tn) (-nI v2)) ((4 * tn) + 1) (nI v6)) ((4 * tn) + 2) (nI 0)) ((4 * tn) + 3) (nI 99)) ((4 * tn) + 2) (nI v8)))) rfl (by exact ⟨rfl, PP_f hf⟩)
                  · refine v_w (w' := wM ad G N Hs (co, len) Tw (i8, decide (i8 < len), v8, (upd (upd (upd (upd (upd td (4 * tn) (-nI v2)) ((4 * tn) + 1) (nI v6)) ((4 * tn) + 2) (nI 0)) ((4 * tn) + 3) (nI 99)) ((4 * tn) + 2) (nI v8)), tn) Ks Lo Wi) (congrArg (fun z_ => wM ad G N Hs (co, len) Tw z_ Ks Lo Wi) hq9) ?_
                    refine v_topi (bI false) (congrArg bI hb9) ?_
                    refine v_if_eq F 219 dX8_isPart_199 (by decide) (fun _ => ?_) (fun h => absurd h (by decide))
                    refine v_iconst (v := nI 0) F dX8_isPart_219 (by decide) ?_
                    exact v_zret F hr hlk hQ rfl dX8_isPart_220 ((false, i8, decide (i8 < len), v8, (upd (upd (upd (upd (upd td (4 * tn) (-nI v2)) ((4 * tn) + 1) (nI v6)) ((4 * tn) + 2) (nI 0)) ((4 * tn) + 3) (nI 99)) ((4 * tn) + 2) (nI v8)))) rfl (by exact ⟨rfl, PP_f hf⟩)
                · refine v_w (w' := wM ad G N Hs (co, len) Tw (i6 + 1, decide (i6 + 1 < len), vb_, (upd (upd (upd (upd td (4 * tn) (-nI v2)) ((4 * tn) + 1) (nI v6)) ((4 * tn) + 2) (nI 0)) ((4 * tn) + 3) (nI 99)), tn) Ks Lo Wi) (congrArg (fun z_ => wM ad G N Hs (co, len) Tw z_ Ks Lo Wi) hq8) ?_
                  refine v_topi (bI false) (congrArg bI hb8) ?_
                  refine v_if_ne F 181 dX8_isPart_176 (by decide) (fun h => absurd h (by decide)) (fun _ => ?_)
                  refine v_iconst (v := nI 0) F dX8_isPart_179 (by decide) ?_
                  exact v_zret F hr hlk hQ rfl dX8_isPart_180 ((false, i6 + 1, decide (i6 + 1 < len), vb_, (upd (upd (upd (upd td (4 * tn) (-nI v2)) ((4 * tn) + 1) (nI v6)) ((4 * tn) + 2) (nI 0)) ((4 * tn) + 3) (nI 99)))) rfl (by exact ⟨rfl, PP_f hf⟩)
              · refine v_topi (bI false) (congrArg bI hb7) ?_
                refine v_if_ne F 159 dX8_isPart_154 (by decide) (fun h => absurd h (by decide)) (fun _ => ?_)
                refine v_iconst (v := nI 1) F dX8_isPart_157 (by decide) ?_
                exact v_zret F hr hlk hQ rfl dX8_isPart_158 ((true, i6, ft, v6, upd (upd (upd (upd td (4 * tn) (-nI v2)) ((4 * tn) + 1) (nI v6)) ((4 * tn) + 2) (nI 0)) ((4 * tn) + 3) (nI 99))) rfl (by exact ⟨rfl, PP_1 (by omega) hR6 hst6 hx64⟩)
            · refine v_w (w' := wM ad G N Hs (co, len) Tw (i2 + 1 + 1, decide (i2 + 1 + 1 < len), v2, (upd td (4 * tn) (-nI v2)), tn) Ks Lo Wi) (congrArg (fun z_ => wM ad G N Hs (co, len) Tw z_ Ks Lo Wi) hq6) ?_
              refine v_topi (bI false) (congrArg bI hb6) ?_
              refine v_if_ne F 103 dX8_isPart_98 (by decide) (fun h => absurd h (by decide)) (fun _ => ?_)
              refine v_iconst (v := nI 0) F dX8_isPart_101 (by decide) ?_
              exact v_zret F hr hlk hQ rfl dX8_isPart_102 ((false, i2 + 1 + 1, decide (i2 + 1 + 1 < len), v2, (upd td (4 * tn) (-nI v2)))) rfl (by exact ⟨rfl, PP_f hf⟩)
          · refine v_topi (bI false) (congrArg bI hb5) ?_
            refine v_if_ne F 84 dX8_isPart_76 (by decide) (fun h => absurd h (by decide)) (fun _ => ?_)
            refine v_aload_n F dX8_isPart_79 0 rfl rfl ?_
            refine v_cVIF F cs_RX8_134 dX8_isPart_80 0 (ci := 8) rfl rfl (m_X8_stops lau G ad N Hs co len Tw (i2 + 1) ft v2 (upd td (4 * tn) (-nI v2)) tn Ks Lo Wi (by omega) hX) (by decide) rfl rfl (Nat.le_of_ble_eq_true rfl) ⟨Nat.zero_le _, Nat.zero_le _⟩ (fun r46 u47 w48 => ?_)
            subst w48
            exact v_zret F hr hlk hQ (nar_b false) dX8_isPart_83 ((false, (stQ len ((i2 + 1), ft, v2, (upd td (4 * tn) (-nI v2)), tn)).1, (stQ len ((i2 + 1), ft, v2, (upd td (4 * tn) (-nI v2)), tn)).2.1, (stQ len ((i2 + 1), ft, v2, (upd td (4 * tn) (-nI v2)), tn)).2.2.1, (stQ len ((i2 + 1), ft, v2, (upd td (4 * tn) (-nI v2)), tn)).2.2.2.1)) rfl (by exact ⟨rfl, PP_f hf⟩)
      · refine v_w (w' := wM ad G N Hs (co, len) Tw (i2, decide (i2 < len), v2, td, tn) Ks Lo Wi) (congrArg (fun z_ => wM ad G N Hs (co, len) Tw z_ Ks Lo Wi) hq3) ?_
        refine v_topi (bI false) (congrArg bI hb3) ?_
        refine v_if_ne F 33 dX8_isPart_28 (by decide) (fun h => absurd h (by decide)) (fun _ => ?_)
        refine v_iconst (v := nI 0) F dX8_isPart_31 (by decide) ?_
        exact v_zret F hr hlk hQ rfl dX8_isPart_32 ((false, i2, decide (i2 < len), v2, td)) rfl (by exact ⟨rfl, PP_f hf⟩)
    · refine v_w (w' := wM ad G N Hs (co, len) Tw ((i + 1), decide ((i + 1) < len), vb_, td, tn) Ks Lo Wi) (congrArg (fun z_ => wM ad G N Hs (co, len) Tw z_ Ks Lo Wi) hq2) ?_
      refine v_topi (bI false) (congrArg bI hb2) ?_
      refine v_if_eq F 31 dX8_isPart_19 (by decide) (fun _ => ?_) (fun h => absurd h (by decide))
      refine v_iconst (v := nI 0) F dX8_isPart_31 (by decide) ?_
      exact v_zret F hr hlk hQ rfl dX8_isPart_32 ((false, (i + 1), decide ((i + 1) < len), vb_, td)) rfl (by exact ⟨rfl, PP_f hf⟩)
  · have hR1 := hR
    have hs1 := tk_0 (co := co) (len := len) (i := i) (nu := nu) (m := false) (sl := sl) (off := off) (fi := fi) hx45
    have hi1 := hR1.1
    refine v_w (w' := wM ad G N Hs (co, len) Tw (i, ft, vl, td, tn) Ks Lo Wi) (congrArg (fun z_ => wM ad G N Hs (co, len) Tw z_ Ks Lo Wi) hq) ?_
    refine v_topi (bI false) (congrArg bI hb) ?_
    refine v_istore_n (lv' := [(2, .int (bI false)), (1, .int (nI (4 * tn))), (0, .ref (ad 0))]) F dX8_isPart_11 2 rfl (by decide) rfl ?_
    refine v_aload_n F dX8_isPart_12 0 rfl rfl ?_
    refine v_iconst (v := nI 0) F dX8_isPart_13 (by decide) ?_
    refine v_bipush (v := nI 99) F dX8_isPart_14 (by decide) ?_
    refine v_cVIF F cs_RX8_150 dX8_isPart_16 0 (ci := 8) rfl rfl (m_X8_isSmall lau G ad N Hs co len Tw i ft vl td tn Ks Lo Wi 0 99 (by omega) (by omega) (by omega) hX) (by decide) rfl rfl (Nat.le_of_ble_eq_true rfl) ⟨Nat.zero_le _, Nat.zero_le _⟩ (fun r49 u50 w51 => ?_)
    subst w51
    rcases tq_small (K := 2) (ft := ft) (vl := vl) (td := td) (tn := tn) hR1 rfl hs1 tk_2 with ⟨hb2, i2, v2, hq2, hl2, hv2, hR2, hst2⟩ | ⟨hb2, vb_, hq2, hf⟩
    · have hi2 := hR2.1
      refine v_w (w' := wM ad G N Hs (co, len) Tw (i2, ft, v2, td, tn) Ks Lo Wi) (congrArg (fun z_ => wM ad G N Hs (co, len) Tw z_ Ks Lo Wi) hq2) ?_
      refine v_topi (bI true) (congrArg bI hb2) ?_
      refine v_if_eq F 31 dX8_isPart_19 (by decide) (fun h => absurd h (by decide)) (fun _ => ?_)
      refine v_aload_n F dX8_isPart_22 0 rfl rfl ?_
      refine v_bipush (v := nI 120) F dX8_isPart_23 (by decide) ?_
      refine v_cVIF F cs_RX8_153 dX8_isPart_25 0 (ci := 8) rfl rfl (m_X8_isSign lau G ad N Hs co len Tw i2 ft v2 td tn Ks Lo Wi 120 (by omega) (by omega) hX) (by decide) rfl rfl (Nat.le_of_ble_eq_true rfl) ⟨Nat.zero_le _, Nat.zero_le _⟩ (fun r52 u53 w54 => ?_)
      subst w54
      rcases tq_x (ft := ft) (vl := v2) (td := td) (tn := tn) hR2 hst2 with ⟨hb3, hq3, hR3⟩ | ⟨hb3, hq3, hf⟩
      · have hi3 := hR3.1
        refine v_w (w' := wM ad G N Hs (co, len) Tw (i2 + 1, ft, v2, td, tn) Ks Lo Wi) (congrArg (fun z_ => wM ad G N Hs (co, len) Tw z_ Ks Lo Wi) hq3) ?_
        refine v_topi (bI true) (congrArg bI hb3) ?_
        refine v_if_ne F 33 dX8_isPart_28 (by decide) (fun _ => ?_) (fun h => absurd h (by decide))
        refine v_aload_n F dX8_isPart_33 0 rfl rfl ?_
        refine v_get (v := .ref (ad 4)) F inlX8 (ci := 8) rfl 9 (by decide) rfl wF_RX8_19 dX8_isPart_34 0 rfl rfl ?_
        refine v_iload_n F dX8_isPart_37 1 rfl rfl ?_
        refine v_iload_n F dX8_isPart_38 2 rfl rfl ?_
        refine v_if_eq F 50 dX8_isPart_39 (by decide) (fun _ => ?_) (fun h => absurd h (by decide))
        refine v_aload_n F dX8_isPart_50 0 rfl rfl ?_
        refine v_get (v := .int (nI v2)) F inlX8 (ci := 8) rfl 8 (by decide) rfl wF_RX8_141 dX8_isPart_51 0 rfl rfl ?_
        refine v_iastN F dX8_isPart_54 4 rfl (4 * tn) rfl (by omega) (by decide) (wM ad G N Hs (co, len) Tw (i2 + 1, ft, v2, upd td (4 * tn) (nI v2), tn) Ks Lo Wi) rfl ?_
        refine v_aload_n F dX8_isPart_55 0 rfl rfl ?_
        refine v_bipush (v := nI 45) F dX8_isPart_56 (by decide) ?_
        refine v_bipush (v := nI 45) F dX8_isPart_58 (by decide) ?_
        refine v_cVIF F cs_RX8_131 dX8_isPart_60 0 (ci := 8) rfl rfl (m_X8_isAt lau G ad N Hs co len Tw (i2 + 1) ft v2 (upd td (4 * tn) (nI v2)) tn Ks Lo Wi 45 45 (by omega) (by omega) (by omega) hX) (by decide) rfl rfl (Nat.le_of_ble_eq_true rfl) ⟨Nat.zero_le _, Nat.zero_le _⟩ (fun r55 u56 w57 => ?_)
        subst w57
        rcases tq_sign hR3 with ⟨hb4, hR5⟩ | ⟨hb4, hx4⟩
        · have hi5 := hR5.1
          refine v_topi (bI true) (congrArg bI hb4) ?_
          refine v_istore_n (lv' := [(2, .int (bI true)), (1, .int (nI (4 * tn))), (0, .ref (ad 0))]) F dX8_isPart_63 2 rfl (by decide) rfl ?_
          refine v_iload_n F dX8_isPart_64 2 rfl rfl ?_
          refine v_if_ne F 84 dX8_isPart_65 (by decide) (fun _ => ?_) (fun h => absurd h (by decide))
          refine v_aload_n F dX8_isPart_84 0 rfl rfl ?_
          refine v_dup F dX8_isPart_85 rfl ?_
          refine v_get (v := .int (nI (i2 + 1))) F inlX8 (ci := 8) rfl 6 (by decide) rfl wF_RX8_125 dX8_isPart_86 0 rfl rfl ?_
          refine v_iconst (v := nI 1) F dX8_isPart_89 (by decide) ?_
          refine v_iadd F dX8_isPart_90 ?_
          refine v_topi (nI ((i2 + 1) + 1)) (nI_add (i2 + 1) 1) ?_
          refine v_put F inlX8 (ci := 8) rfl tyX8 tyX8_ok nmX8 6 (by decide) rfl rfl wF_RX8_125 dX8_isPart_91 (ty := .int) (by decide +kernel) rfl rfl 0 rfl (Nat.le_of_ble_eq_true rfl) (wM ad G N Hs (co, len) Tw ((i2 + 1) + 1, ft, v2, upd td (4 * tn) (nI v2), tn) Ks Lo Wi) rfl ?_
          refine v_aload_n F dX8_isPart_94 0 rfl rfl ?_
          refine v_cVIF F cs_RX8_156 dX8_isPart_95 0 (ci := 8) rfl rfl (m_X8_isGreat lau G ad N Hs co len Tw ((i2 + 1) + 1) ft v2 (upd td (4 * tn) (nI v2)) tn Ks Lo Wi (by omega) hX) (by decide) rfl rfl (Nat.le_of_ble_eq_true rfl) ⟨Nat.zero_le _, Nat.zero_le _⟩ (fun r58 u59 w60 => ?_)
          subst w60
          rcases tq_great (ft := ft) (vl := v2) (td := (upd td (4 * tn) (nI v2))) (tn := tn) hR5 with ⟨hb6, i6, v6, hq6, hl6, hv6, hR6, hst6⟩ | ⟨hb6, hq6, hf⟩
          · have hi6 := hR6.1
            refine v_w (w' := wM ad G N Hs (co, len) Tw (i6, ft, v6, (upd td (4 * tn) (nI v2)), tn) Ks Lo Wi) (congrArg (fun z_ => wM ad G N Hs (co, len) Tw z_ Ks Lo Wi) hq6) ?_
            refine v_topi (bI true) (congrArg bI hb6) ?_
            refine v_if_ne F 103 dX8_isPart_98 (by decide) (fun _ => ?_) (fun h => absurd h (by decide))
            refine v_aload_n F dX8_isPart_103 0 rfl rfl ?_
            refine v_get (v := .ref (ad 4)) F inlX8 (ci := 8) rfl 9 (by decide) rfl wF_RX8_19 dX8_isPart_104 0 rfl rfl ?_
            refine v_iload_n F dX8_isPart_107 1 rfl rfl ?_
            refine v_iconst (v := nI 1) F dX8_isPart_108 (by decide) ?_
            refine v_iadd F dX8_isPart_109 ?_
            refine v_topi (nI ((4 * tn) + 1)) (nI_add (4 * tn) 1) ?_
            refine v_iload_n F dX8_isPart_110 2 rfl rfl ?_
            refine v_if_eq F 122 dX8_isPart_111 (by decide) (fun h => absurd h (by decide)) (fun _ => ?_)
            refine v_aload_n F dX8_isPart_114 0 rfl rfl ?_
            refine v_get (v := .int (nI v6)) F inlX8 (ci := 8) rfl 8 (by decide) rfl wF_RX8_141 dX8_isPart_115 0 rfl rfl ?_
            refine v_ineg F dX8_isPart_118 ?_
            refine v_goto F 126 dX8_isPart_119 (by decide) ?_
            refine v_iastN F dX8_isPart_126 4 rfl ((4 * tn) + 1) rfl (by omega) (by decide) (wM ad G N Hs (co, len) Tw (i6, ft, v6, upd (upd td (4 * tn) (nI v2)) ((4 * tn) + 1) (-nI v6), tn) Ks Lo Wi) rfl ?_
            refine v_aload_n F dX8_isPart_127 0 rfl rfl ?_
            refine v_get (v := .ref (ad 4)) F inlX8 (ci := 8) rfl 9 (by decide) rfl wF_RX8_19 dX8_isPart_128 0 rfl rfl ?_
            refine v_iload_n F dX8_isPart_131 1 rfl rfl ?_
            refine v_iconst (v := nI 2) F dX8_isPart_132 (by decide) ?_
            refine v_iadd F dX8_isPart_133 ?_
            refine v_topi (nI ((4 * tn) + 2)) (nI_add (4 * tn) 2) ?_
            refine v_iconst (v := nI 0) F dX8_isPart_134 (by decide) ?_
            refine v_iastN F dX8_isPart_135 4 rfl ((4 * tn) + 2) rfl (by omega) (by decide) (wM ad G N Hs (co, len) Tw (i6, ft, v6, upd (upd (upd td (4 * tn) (nI v2)) ((4 * tn) + 1) (-nI v6)) ((4 * tn) + 2) (nI 0), tn) Ks Lo Wi) rfl ?_
            refine v_aload_n F dX8_isPart_136 0 rfl rfl ?_
            refine v_get (v := .ref (ad 4)) F inlX8 (ci := 8) rfl 9 (by decide) rfl wF_RX8_19 dX8_isPart_137 0 rfl rfl ?_
            refine v_iload_n F dX8_isPart_140 1 rfl rfl ?_
            refine v_iconst (v := nI 3) F dX8_isPart_141 (by decide) ?_
            refine v_iadd F dX8_isPart_142 ?_
            refine v_topi (nI ((4 * tn) + 3)) (nI_add (4 * tn) 3) ?_
            refine v_bipush (v := nI 99) F dX8_isPart_143 (by decide) ?_
            refine v_iastN F dX8_isPart_145 4 rfl ((4 * tn) + 3) rfl (by omega) (by decide) (wM ad G N Hs (co, len) Tw (i6, ft, v6, upd (upd (upd (upd td (4 * tn) (nI v2)) ((4 * tn) + 1) (-nI v6)) ((4 * tn) + 2) (nI 0)) ((4 * tn) + 3) (nI 99), tn) Ks Lo Wi) rfl ?_
            refine v_aload_n F dX8_isPart_146 0 rfl rfl ?_
            refine v_bipush (v := nI 64) F dX8_isPart_147 (by decide) ?_
            refine v_bipush (v := nI 64) F dX8_isPart_149 (by decide) ?_
            refine v_cVIF F cs_RX8_131 dX8_isPart_151 0 (ci := 8) rfl rfl (m_X8_isAt lau G ad N Hs co len Tw i6 ft v6 (upd (upd (upd (upd td (4 * tn) (nI v2)) ((4 * tn) + 1) (-nI v6)) ((4 * tn) + 2) (nI 0)) ((4 * tn) + 3) (nI 99)) tn Ks Lo Wi 64 64 (by omega) (by omega) (by omega) hX) (by decide) rfl rfl (Nat.le_of_ble_eq_true rfl) ⟨Nat.zero_le _, Nat.zero_le _⟩ (fun r61 u62 w63 => ?_)
            subst w63
            rcases tq_at hR6 with ⟨hb7, hR7⟩ | ⟨hb7, hx64⟩
            · have hi7 := hR7.1
              refine v_topi (bI true) (congrArg bI hb7) ?_
              refine v_if_ne F 159 dX8_isPart_154 (by decide) (fun _ => ?_) (fun h => absurd h (by decide))
              refine v_aload_n F dX8_isPart_159 0 rfl rfl ?_
              refine v_dup F dX8_isPart_160 rfl ?_
              refine v_get (v := .int (nI i6)) F inlX8 (ci := 8) rfl 6 (by decide) rfl wF_RX8_125 dX8_isPart_161 0 rfl rfl ?_
              refine v_iconst (v := nI 1) F dX8_isPart_164 (by decide) ?_
              refine v_iadd F dX8_isPart_165 ?_
              refine v_topi (nI (i6 + 1)) (nI_add i6 1) ?_
              refine v_put F inlX8 (ci := 8) rfl tyX8 tyX8_ok nmX8 6 (by decide) rfl rfl wF_RX8_125 dX8_isPart_166 (ty := .int) (by decide +kernel) rfl rfl 0 rfl (Nat.le_of_ble_eq_true rfl) (wM ad G N Hs (co, len) Tw (i6 + 1, ft, v6, upd (upd (upd (upd td (4 * tn) (nI v2)) ((4 * tn) + 1) (-nI v6)) ((4 * tn) + 2) (nI 0)) ((4 * tn) + 3) (nI 99), tn) Ks Lo Wi) rfl ?_
              refine v_aload_n F dX8_isPart_169 0 rfl rfl ?_
              refine v_iconst (v := nI 0) F dX8_isPart_170 (by decide) ?_
              refine v_bipush (v := nI 99) F dX8_isPart_171 (by decide) ?_
              refine v_cVIF F cs_RX8_150 dX8_isPart_173 0 (ci := 8) rfl rfl (m_X8_isSmall lau G ad N Hs co len Tw (i6 + 1) ft v6 (upd (upd (upd (upd td (4 * tn) (nI v2)) ((4 * tn) + 1) (-nI v6)) ((4 * tn) + 2) (nI 0)) ((4 * tn) + 3) (nI 99)) tn Ks Lo Wi 0 99 (by omega) (by omega) (by omega) hX) (by decide) rfl rfl (Nat.le_of_ble_eq_true rfl) ⟨Nat.zero_le _, Nat.zero_le _⟩ (fun r64 u65 w66 => ?_)
              subst w66
              rcases tq_small (K := 7) (ft := ft) (vl := v6) (td := (upd (upd (upd (upd td (4 * tn) (nI v2)) ((4 * tn) + 1) (-nI v6)) ((4 * tn) + 2) (nI 0)) ((4 * tn) + 3) (nI 99))) (tn := tn) hR7 rfl tk_6 tk_7 with ⟨hb8, i8, v8, hq8, hl8, hv8, hR8, hst8⟩ | ⟨hb8, vb_, hq8, hf⟩
              · have hi8 := hR8.1
                refine v_w (w' := wM ad G N Hs (co, len) Tw (i8, ft, v8, (upd (upd (upd (upd td (4 * tn) (nI v2)) ((4 * tn) + 1) (-nI v6)) ((4 * tn) + 2) (nI 0)) ((4 * tn) + 3) (nI 99)), tn) Ks Lo Wi) (congrArg (fun z_ => wM ad G N Hs (co, len) Tw z_ Ks Lo Wi) hq8) ?_
                refine v_topi (bI true) (congrArg bI hb8) ?_
                refine v_if_ne F 181 dX8_isPart_176 (by decide) (fun _ => ?_) (fun h => absurd h (by decide))
                refine v_aload_n F dX8_isPart_181 0 rfl rfl ?_
                refine v_get (v := .ref (ad 4)) F inlX8 (ci := 8) rfl 9 (by decide) rfl wF_RX8_19 dX8_isPart_182 0 rfl rfl ?_
                refine v_iload_n F dX8_isPart_185 1 rfl rfl ?_
                refine v_iconst (v := nI 2) F dX8_isPart_186 (by decide) ?_
                refine v_iadd F dX8_isPart_187 ?_
                refine v_topi (nI ((4 * tn) + 2)) (nI_add (4 * tn) 2) ?_
                refine v_aload_n F dX8_isPart_188 0 rfl rfl ?_
                refine v_get (v := .int (nI v8)) F inlX8 (ci := 8) rfl 8 (by decide) rfl wF_RX8_141 dX8_isPart_189 0 rfl rfl ?_
                refine v_iastN F dX8_isPart_192 4 rfl ((4 * tn) + 2) rfl (by omega) (by decide) (wM ad G N Hs (co, len) Tw (i8, ft, v8, upd (upd (upd (upd (upd td (4 * tn) (nI v2)) ((4 * tn) + 1) (-nI v6)) ((4 * tn) + 2) (nI 0)) ((4 * tn) + 3) (nI 99)) ((4 * tn) + 2) (nI v8), tn) Ks Lo Wi) rfl ?_
                refine v_aload_n F dX8_isPart_193 0 rfl rfl ?_
                refine v_bipush (v := nI 45) F dX8_isPart_194 (by decide) ?_
                refine v_cVIF F cs_RX8_153 dX8_isPart_196 0 (ci := 8) rfl rfl (m_X8_isSign lau G ad N Hs co len Tw i8 ft v8 (upd (upd (upd (upd (upd td (4 * tn) (nI v2)) ((4 * tn) + 1) (-nI v6)) ((4 * tn) + 2) (nI 0)) ((4 * tn) + 3) (nI 99)) ((4 * tn) + 2) (nI v8)) tn Ks Lo Wi 45 (by omega) (by omega) hX) (by decide) rfl rfl (Nat.le_of_ble_eq_true rfl) ⟨Nat.zero_le _, Nat.zero_le _⟩ (fun r67 u68 w69 => ?_)
                subst w69
                rcases tq_dash (ft := ft) (vl := v8) (td := (upd (upd (upd (upd (upd td (4 * tn) (nI v2)) ((4 * tn) + 1) (-nI v6)) ((4 * tn) + 2) (nI 0)) ((4 * tn) + 3) (nI 99)) ((4 * tn) + 2) (nI v8))) (tn := tn) hR8 hst8 with ⟨hb9, hq9, hR9⟩ | ⟨hb9, hq9, hf⟩
                · have hi9 := hR9.1
                  refine v_w (w' := wM ad G N Hs (co, len) Tw (i8 + 1, ft, v8, (upd (upd (upd (upd (upd td (4 * tn) (nI v2)) ((4 * tn) + 1) (-nI v6)) ((4 * tn) + 2) (nI 0)) ((4 * tn) + 3) (nI 99)) ((4 * tn) + 2) (nI v8)), tn) Ks Lo Wi) (congrArg (fun z_ => wM ad G N Hs (co, len) Tw z_ Ks Lo Wi) hq9) ?_
                  refine v_topi (bI true) (congrArg bI hb9) ?_
                  refine v_if_eq F 219 dX8_isPart_199 (by decide) (fun h => absurd h (by decide)) (fun _ => ?_)
                  refine v_aload_n F dX8_isPart_202 0 rfl rfl ?_
                  refine v_aload_n F dX8_isPart_203 0 rfl rfl ?_
                  refine v_get (v := .ref (ad 4)) F inlX8 (ci := 8) rfl 9 (by decide) rfl wF_RX8_19 dX8_isPart_204 0 rfl rfl ?_
                  refine v_iload_n F dX8_isPart_207 1 rfl rfl ?_
                  refine v_iconst (v := nI 2) F dX8_isPart_208 (by decide) ?_
                  refine v_iadd F dX8_isPart_209 ?_
                  refine v_topi (nI ((4 * tn) + 2)) (nI_add (4 * tn) 2) ?_
                  refine v_ialdN F dX8_isPart_210 4 rfl ((4 * tn) + 2) rfl (by omega) (by decide) ((upd (upd (upd (upd (upd td (4 * tn) (nI v2)) ((4 * tn) + 1) (-nI v6)) ((4 * tn) + 2) (nI 0)) ((4 * tn) + 3) (nI 99)) ((4 * tn) + 2) (nI v8)) ((4 * tn) + 2)) rfl ?_
                  refine v_topi (nI v8) (by rw [upd_s]) ?_
                  refine v_bipush (v := nI 99) F dX8_isPart_211 (by decide) ?_
                  refine v_cVIF F cs_RX8_150 dX8_isPart_213 0 (ci := 8) rfl rfl (m_X8_isSmall lau G ad N Hs co len Tw (i8 + 1) ft v8 (upd (upd (upd (upd (upd td (4 * tn) (nI v2)) ((4 * tn) + 1) (-nI v6)) ((4 * tn) + 2) (nI 0)) ((4 * tn) + 3) (nI 99)) ((4 * tn) + 2) (nI v8)) tn Ks Lo Wi v8 99 (by omega) (by omega) (by omega) hX) (by decide) rfl rfl (Nat.le_of_ble_eq_true rfl) ⟨Nat.zero_le _, Nat.zero_le _⟩ (fun r70 u71 w72 => ?_)
                  subst w72
                  rcases tq_last (ft := ft) (vl := v8) (td := (upd (upd (upd (upd (upd td (4 * tn) (nI v2)) ((4 * tn) + 1) (-nI v6)) ((4 * tn) + 2) (nI 0)) ((4 * tn) + 3) (nI 99)) ((4 * tn) + 2) (nI v8))) (tn := tn) hR9 hv8 with ⟨hb10, i10, v10, hq10, hl10, hv10a, hv10, hR10, hst10⟩ | ⟨hb10, i10, vb_, hq10, hf⟩
                  · have hi10 := hR10.1
                    refine v_w (w' := wM ad G N Hs (co, len) Tw (i10, ft, v10, (upd (upd (upd (upd (upd td (4 * tn) (nI v2)) ((4 * tn) + 1) (-nI v6)) ((4 * tn) + 2) (nI 0)) ((4 * tn) + 3) (nI 99)) ((4 * tn) + 2) (nI v8)), tn) Ks Lo Wi) (congrArg (fun z_ => wM ad G N Hs (co, len) Tw z_ Ks Lo Wi) hq10) ?_
                    refine v_topi (bI true) (congrArg bI hb10) ?_
                    refine v_if_ne F 221 dX8_isPart_216 (by decide) (fun _ => ?_) (fun h => absurd h (by decide))
                    refine v_aload_n F dX8_isPart_221 0 rfl rfl ?_
                    refine v_get (v := .ref (ad 4)) F inlX8 (ci := 8) rfl 9 (by decide) rfl wF_RX8_19 dX8_isPart_222 0 rfl rfl ?_
                    refine v_iload_n F dX8_isPart_225 1 rfl rfl ?_
                    refine v_iconst (v := nI 3) F dX8_isPart_226 (by decide) ?_
                    refine v_iadd F dX8_isPart_227 ?_
                    refine v_topi (nI ((4 * tn) + 3)) (nI_add (4 * tn) 3) ?_
                    refine v_aload_n F dX8_isPart_228 0 rfl rfl ?_
                    refine v_get (v := .int (nI v10)) F inlX8 (ci := 8) rfl 8 (by decide) rfl wF_RX8_141 dX8_isPart_229 0 rfl rfl ?_
                    refine v_iastN F dX8_isPart_232 4 rfl ((4 * tn) + 3) rfl (by omega) (by decide) (wM ad G N Hs (co, len) Tw (i10, ft, v10, upd (upd (upd (upd (upd (upd td (4 * tn) (nI v2)) ((4 * tn) + 1) (-nI v6)) ((4 * tn) + 2) (nI 0)) ((4 * tn) + 3) (nI 99)) ((4 * tn) + 2) (nI v8)) ((4 * tn) + 3) (nI v10), tn) Ks Lo Wi) rfl ?_
                    refine v_iconst (v := nI 1) F dX8_isPart_233 (by decide) ?_
                    exact v_zret F hr hlk hQ rfl dX8_isPart_234 ((true, i10, ft, v10, upd (upd (upd (upd (upd (upd td (4 * tn) (nI v2)) ((4 * tn) + 1) (-nI v6)) ((4 * tn) + 2) (nI 0)) ((4 * tn) + 3) (nI 99)) ((4 * tn) + 2) (nI v8)) ((4 * tn) + 3) (nI v10))) rfl (by exact ⟨rfl, PP_2 (by omega) hR10 hst10 hv10a⟩)
                  · refine v_w (w' := wM ad G N Hs (co, len) Tw (i10, decide (i10 < len), vb_, (upd (upd (upd (upd (upd td (4 * tn) (nI v2)) ((4 * tn) + 1) (-nI v6)) ((4 * tn) + 2) (nI 0)) ((4 * tn) + 3) (nI 99)) ((4 * tn) + 2) (nI v8)), tn) Ks Lo Wi) (congrArg (fun z_ => wM ad G N Hs (co, len) Tw z_ Ks Lo Wi) hq10) ?_
                    refine v_topi (bI false) (congrArg bI hb10) ?_
                    refine v_if_ne F 221 dX8_isPart_216 (by decide) (fun h => absurd h (by decide)) (fun _ => ?_)
                    refine v_iconst (v := nI 0) F dX8_isPart_219 (by decide) ?_
                    exact v_zret F hr hlk hQ rfl dX8_isPart_220 ((false, i10, decide (i10 < len), vb_, (upd (upd (upd (upd (upd td (4 * tn) (nI v2)) ((4 * tn) + 1) (-nI v6)) ((4 * tn) + 2) (nI 0)) ((4 * tn) + 3) (nI 99)) ((4 * tn) + 2) (nI v8)))) rfl (by exact ⟨rfl, PP_f hf⟩)
                · refine v_w (w' := wM ad G N Hs (co, len) Tw (i8, decide (i8 < len), v8, (upd (upd (upd (upd (upd td (4 * tn) (nI v2)) ((4 * tn) + 1) (-nI v6)) ((4 * tn) + 2) (nI 0)) ((4 * tn) + 3) (nI 99)) ((4 * tn) + 2) (nI v8)), tn) Ks Lo Wi) (congrArg (fun z_ => wM ad G N Hs (co, len) Tw z_ Ks Lo Wi) hq9) ?_
                  refine v_topi (bI false) (congrArg bI hb9) ?_
                  refine v_if_eq F 219 dX8_isPart_199 (by decide) (fun _ => ?_) (fun h => absurd h (by decide))
                  refine v_iconst (v := nI 0) F dX8_isPart_219 (by decide) ?_
                  exact v_zret F hr hlk hQ rfl dX8_isPart_220 ((false, i8, decide (i8 < len), v8, (upd (upd (upd (upd (upd td (4 * tn) (nI v2)) ((4 * tn) + 1) (-nI v6)) ((4 * tn) + 2) (nI 0)) ((4 * tn) + 3) (nI 99)) ((4 * tn) + 2) (nI v8)))) rfl (by exact ⟨rfl, PP_f hf⟩)
              · refine v_w (w' := wM ad G N Hs (co, len) Tw (i6 + 1, decide (i6 + 1 < len), vb_, (upd (upd (upd (upd td (4 * tn) (nI v2)) ((4 * tn) + 1) (-nI v6)) ((4 * tn) + 2) (nI 0)) ((4 * tn) + 3) (nI 99)), tn) Ks Lo Wi) (congrArg (fun z_ => wM ad G N Hs (co, len) Tw z_ Ks Lo Wi) hq8) ?_
                refine v_topi (bI false) (congrArg bI hb8) ?_
                refine v_if_ne F 181 dX8_isPart_176 (by decide) (fun h => absurd h (by decide)) (fun _ => ?_)
                refine v_iconst (v := nI 0) F dX8_isPart_179 (by decide) ?_
                exact v_zret F hr hlk hQ rfl dX8_isPart_180 ((false, i6 + 1, decide (i6 + 1 < len), vb_, (upd (upd (upd (upd td (4 * tn) (nI v2)) ((4 * tn) + 1) (-nI v6)) ((4 * tn) + 2) (nI 0)) ((4 * tn) + 3) (nI 99)))) rfl (by exact ⟨rfl, PP_f hf⟩)
            · refine v_topi (bI false) (congrArg bI hb7) ?_
              refine v_if_ne F 159 dX8_isPart_154 (by decide) (fun h => absurd h (by decide)) (fun _ => ?_)
              refine v_iconst (v := nI 1) F dX8_isPart_157 (by decide) ?_
              exact v_zret F hr hlk hQ rfl dX8_isPart_158 ((true, i6, ft, v6, upd (upd (upd (upd td (4 * tn) (nI v2)) ((4 * tn) + 1) (-nI v6)) ((4 * tn) + 2) (nI 0)) ((4 * tn) + 3) (nI 99))) rfl (by exact ⟨rfl, PP_1 (by omega) hR6 hst6 hx64⟩)
          · refine v_w (w' := wM ad G N Hs (co, len) Tw (i2 + 1 + 1, decide (i2 + 1 + 1 < len), v2, (upd td (4 * tn) (nI v2)), tn) Ks Lo Wi) (congrArg (fun z_ => wM ad G N Hs (co, len) Tw z_ Ks Lo Wi) hq6) ?_
            refine v_topi (bI false) (congrArg bI hb6) ?_
            refine v_if_ne F 103 dX8_isPart_98 (by decide) (fun h => absurd h (by decide)) (fun _ => ?_)
            refine v_iconst (v := nI 0) F dX8_isPart_101 (by decide) ?_
            exact v_zret F hr hlk hQ rfl dX8_isPart_102 ((false, i2 + 1 + 1, decide (i2 + 1 + 1 < len), v2, (upd td (4 * tn) (nI v2)))) rfl (by exact ⟨rfl, PP_f hf⟩)
        · refine v_topi (bI false) (congrArg bI hb4) ?_
          refine v_istore_n (lv' := [(2, .int (bI false)), (1, .int (nI (4 * tn))), (0, .ref (ad 0))]) F dX8_isPart_63 2 rfl (by decide) rfl ?_
          refine v_iload_n F dX8_isPart_64 2 rfl rfl ?_
          refine v_if_ne F 84 dX8_isPart_65 (by decide) (fun h => absurd h (by decide)) (fun _ => ?_)
          refine v_aload_n F dX8_isPart_68 0 rfl rfl ?_
          refine v_bipush (v := nI 43) F dX8_isPart_69 (by decide) ?_
          refine v_bipush (v := nI 43) F dX8_isPart_71 (by decide) ?_
          refine v_cVIF F cs_RX8_131 dX8_isPart_73 0 (ci := 8) rfl rfl (m_X8_isAt lau G ad N Hs co len Tw (i2 + 1) ft v2 (upd td (4 * tn) (nI v2)) tn Ks Lo Wi 43 43 (by omega) (by omega) (by omega) hX) (by decide) rfl rfl (Nat.le_of_ble_eq_true rfl) ⟨Nat.zero_le _, Nat.zero_le _⟩ (fun r73 u74 w75 => ?_)
          subst w75
          rcases tq_plus hR3 hx4 with ⟨hb5, hR5⟩ | ⟨hb5, hf⟩
          · have hi5 := hR5.1
            refine v_topi (bI true) (congrArg bI hb5) ?_
            refine v_if_ne F 84 dX8_isPart_76 (by decide) (fun _ => ?_) (fun h => absurd h (by decide))
            refine v_aload_n F dX8_isPart_84 0 rfl rfl ?_
            refine v_dup F dX8_isPart_85 rfl ?_
            refine v_get (v := .int (nI (i2 + 1))) F inlX8 (ci := 8) rfl 6 (by decide) rfl wF_RX8_125 dX8_isPart_86 0 rfl rfl ?_
            refine v_iconst (v := nI 1) F dX8_isPart_89 (by decide) ?_
            refine v_iadd F dX8_isPart_90 ?_
            refine v_topi (nI ((i2 + 1) + 1)) (nI_add (i2 + 1) 1) ?_
            refine v_put F inlX8 (ci := 8) rfl tyX8 tyX8_ok nmX8 6 (by decide) rfl rfl wF_RX8_125 dX8_isPart_91 (ty := .int) (by decide +kernel) rfl rfl 0 rfl (Nat.le_of_ble_eq_true rfl) (wM ad G N Hs (co, len) Tw ((i2 + 1) + 1, ft, v2, upd td (4 * tn) (nI v2), tn) Ks Lo Wi) rfl ?_
            refine v_aload_n F dX8_isPart_94 0 rfl rfl ?_
            refine v_cVIF F cs_RX8_156 dX8_isPart_95 0 (ci := 8) rfl rfl (m_X8_isGreat lau G ad N Hs co len Tw ((i2 + 1) + 1) ft v2 (upd td (4 * tn) (nI v2)) tn Ks Lo Wi (by omega) hX) (by decide) rfl rfl (Nat.le_of_ble_eq_true rfl) ⟨Nat.zero_le _, Nat.zero_le _⟩ (fun r76 u77 w78 => ?_)
            subst w78
            rcases tq_great (ft := ft) (vl := v2) (td := (upd td (4 * tn) (nI v2))) (tn := tn) hR5 with ⟨hb6, i6, v6, hq6, hl6, hv6, hR6, hst6⟩ | ⟨hb6, hq6, hf⟩
            · have hi6 := hR6.1
              refine v_w (w' := wM ad G N Hs (co, len) Tw (i6, ft, v6, (upd td (4 * tn) (nI v2)), tn) Ks Lo Wi) (congrArg (fun z_ => wM ad G N Hs (co, len) Tw z_ Ks Lo Wi) hq6) ?_
              refine v_topi (bI true) (congrArg bI hb6) ?_
              refine v_if_ne F 103 dX8_isPart_98 (by decide) (fun _ => ?_) (fun h => absurd h (by decide))
              refine v_aload_n F dX8_isPart_103 0 rfl rfl ?_
              refine v_get (v := .ref (ad 4)) F inlX8 (ci := 8) rfl 9 (by decide) rfl wF_RX8_19 dX8_isPart_104 0 rfl rfl ?_
              refine v_iload_n F dX8_isPart_107 1 rfl rfl ?_
              refine v_iconst (v := nI 1) F dX8_isPart_108 (by decide) ?_
              refine v_iadd F dX8_isPart_109 ?_
              refine v_topi (nI ((4 * tn) + 1)) (nI_add (4 * tn) 1) ?_
              refine v_iload_n F dX8_isPart_110 2 rfl rfl ?_
              refine v_if_eq F 122 dX8_isPart_111 (by decide) (fun _ => ?_) (fun h => absurd h (by decide))
              refine v_aload_n F dX8_isPart_122 0 rfl rfl ?_
              refine v_get (v := .int (nI v6)) F inlX8 (ci := 8) rfl 8 (by decide) rfl wF_RX8_141 dX8_isPart_123 0 rfl rfl ?_
              refine v_iastN F dX8_isPart_126 4 rfl ((4 * tn) + 1) rfl (by omega) (by decide) (wM ad G N Hs (co, len) Tw (i6, ft, v6, upd (upd td (4 * tn) (nI v2)) ((4 * tn) + 1) (nI v6), tn) Ks Lo Wi) rfl ?_
              refine v_aload_n F dX8_isPart_127 0 rfl rfl ?_
              refine v_get (v := .ref (ad 4)) F inlX8 (ci := 8) rfl 9 (by decide) rfl wF_RX8_19 dX8_isPart_128 0 rfl rfl ?_
              refine v_iload_n F dX8_isPart_131 1 rfl rfl ?_
              refine v_iconst (v := nI 2) F dX8_isPart_132 (by decide) ?_
              refine v_iadd F dX8_isPart_133 ?_
              refine v_topi (nI ((4 * tn) + 2)) (nI_add (4 * tn) 2) ?_
              refine v_iconst (v := nI 0) F dX8_isPart_134 (by decide) ?_
              refine v_iastN F dX8_isPart_135 4 rfl ((4 * tn) + 2) rfl (by omega) (by decide) (wM ad G N Hs (co, len) Tw (i6, ft, v6, upd (upd (upd td (4 * tn) (nI v2)) ((4 * tn) + 1) (nI v6)) ((4 * tn) + 2) (nI 0), tn) Ks Lo Wi) rfl ?_
              refine v_aload_n F dX8_isPart_136 0 rfl rfl ?_
              refine v_get (v := .ref (ad 4)) F inlX8 (ci := 8) rfl 9 (by decide) rfl wF_RX8_19 dX8_isPart_137 0 rfl rfl ?_
              refine v_iload_n F dX8_isPart_140 1 rfl rfl ?_
              refine v_iconst (v := nI 3) F dX8_isPart_141 (by decide) ?_
              refine v_iadd F dX8_isPart_142 ?_
              refine v_topi (nI ((4 * tn) + 3)) (nI_add (4 * tn) 3) ?_
              refine v_bipush (v := nI 99) F dX8_isPart_143 (by decide) ?_
              refine v_iastN F dX8_isPart_145 4 rfl ((4 * tn) + 3) rfl (by omega) (by decide) (wM ad G N Hs (co, len) Tw (i6, ft, v6, upd (upd (upd (upd td (4 * tn) (nI v2)) ((4 * tn) + 1) (nI v6)) ((4 * tn) + 2) (nI 0)) ((4 * tn) + 3) (nI 99), tn) Ks Lo Wi) rfl ?_
              refine v_aload_n F dX8_isPart_146 0 rfl rfl ?_
              refine v_bipush (v := nI 64) F dX8_isPart_147 (by decide) ?_
              refine v_bipush (v := nI 64) F dX8_isPart_149 (by decide) ?_
              refine v_cVIF F cs_RX8_131 dX8_isPart_151 0 (ci := 8) rfl rfl (m_X8_isAt lau G ad N Hs co len Tw i6 ft v6 (upd (upd (upd (upd td (4 * tn) (nI v2)) ((4 * tn) + 1) (nI v6)) ((4 * tn) + 2) (nI 0)) ((4 * tn) + 3) (nI 99)) tn Ks Lo Wi 64 64 (by omega) (by omega) (by omega) hX) (by decide) rfl rfl (Nat.le_of_ble_eq_true rfl) ⟨Nat.zero_le _, Nat.zero_le _⟩ (fun r79 u80 w81 => ?_)
              subst w81
              rcases tq_at hR6 with ⟨hb7, hR7⟩ | ⟨hb7, hx64⟩
              · have hi7 := hR7.1
                refine v_topi (bI true) (congrArg bI hb7) ?_
                refine v_if_ne F 159 dX8_isPart_154 (by decide) (fun _ => ?_) (fun h => absurd h (by decide))
                refine v_aload_n F dX8_isPart_159 0 rfl rfl ?_
                refine v_dup F dX8_isPart_160 rfl ?_
                refine v_get (v := .int (nI i6)) F inlX8 (ci := 8) rfl 6 (by decide) rfl wF_RX8_125 dX8_isPart_161 0 rfl rfl ?_
                refine v_iconst (v := nI 1) F dX8_isPart_164 (by decide) ?_
                refine v_iadd F dX8_isPart_165 ?_
                refine v_topi (nI (i6 + 1)) (nI_add i6 1) ?_
                refine v_put F inlX8 (ci := 8) rfl tyX8 tyX8_ok nmX8 6 (by decide) rfl rfl wF_RX8_125 dX8_isPart_166 (ty := .int) (by decide +kernel) rfl rfl 0 rfl (Nat.le_of_ble_eq_true rfl) (wM ad G N Hs (co, len) Tw (i6 + 1, ft, v6, upd (upd (upd (upd td (4 * tn) (nI v2)) ((4 * tn) + 1) (nI v6)) ((4 * tn) + 2) (nI 0)) ((4 * tn) + 3) (nI 99), tn) Ks Lo Wi) rfl ?_
                refine v_aload_n F dX8_isPart_169 0 rfl rfl ?_
                refine v_iconst (v := nI 0) F dX8_isPart_170 (by decide) ?_
                refine v_bipush (v := nI 99) F dX8_isPart_171 (by decide) ?_
                refine v_cVIF F cs_RX8_150 dX8_isPart_173 0 (ci := 8) rfl rfl (m_X8_isSmall lau G ad N Hs co len Tw (i6 + 1) ft v6 (upd (upd (upd (upd td (4 * tn) (nI v2)) ((4 * tn) + 1) (nI v6)) ((4 * tn) + 2) (nI 0)) ((4 * tn) + 3) (nI 99)) tn Ks Lo Wi 0 99 (by omega) (by omega) (by omega) hX) (by decide) rfl rfl (Nat.le_of_ble_eq_true rfl) ⟨Nat.zero_le _, Nat.zero_le _⟩ (fun r82 u83 w84 => ?_)
                subst w84
                rcases tq_small (K := 7) (ft := ft) (vl := v6) (td := (upd (upd (upd (upd td (4 * tn) (nI v2)) ((4 * tn) + 1) (nI v6)) ((4 * tn) + 2) (nI 0)) ((4 * tn) + 3) (nI 99))) (tn := tn) hR7 rfl tk_6 tk_7 with ⟨hb8, i8, v8, hq8, hl8, hv8, hR8, hst8⟩ | ⟨hb8, vb_, hq8, hf⟩
                · have hi8 := hR8.1
                  refine v_w (w' := wM ad G N Hs (co, len) Tw (i8, ft, v8, (upd (upd (upd (upd td (4 * tn) (nI v2)) ((4 * tn) + 1) (nI v6)) ((4 * tn) + 2) (nI 0)) ((4 * tn) + 3) (nI 99)), tn) Ks Lo Wi) (congrArg (fun z_ => wM ad G N Hs (co, len) Tw z_ Ks Lo Wi) hq8) ?_
                  refine v_topi (bI true) (congrArg bI hb8) ?_
                  refine v_if_ne F 181 dX8_isPart_176 (by decide) (fun _ => ?_) (fun h => absurd h (by decide))
                  refine v_aload_n F dX8_isPart_181 0 rfl rfl ?_
                  refine v_get (v := .ref (ad 4)) F inlX8 (ci := 8) rfl 9 (by decide) rfl wF_RX8_19 dX8_isPart_182 0 rfl rfl ?_
                  refine v_iload_n F dX8_isPart_185 1 rfl rfl ?_
                  refine v_iconst (v := nI 2) F dX8_isPart_186 (by decide) ?_
                  refine v_iadd F dX8_isPart_187 ?_
                  refine v_topi (nI ((4 * tn) + 2)) (nI_add (4 * tn) 2) ?_
                  refine v_aload_n F dX8_isPart_188 0 rfl rfl ?_
                  refine v_get (v := .int (nI v8)) F inlX8 (ci := 8) rfl 8 (by decide) rfl wF_RX8_141 dX8_isPart_189 0 rfl rfl ?_
                  refine v_iastN F dX8_isPart_192 4 rfl ((4 * tn) + 2) rfl (by omega) (by decide) (wM ad G N Hs (co, len) Tw (i8, ft, v8, upd (upd (upd (upd (upd td (4 * tn) (nI v2)) ((4 * tn) + 1) (nI v6)) ((4 * tn) + 2) (nI 0)) ((4 * tn) + 3) (nI 99)) ((4 * tn) + 2) (nI v8), tn) Ks Lo Wi) rfl ?_
                  refine v_aload_n F dX8_isPart_193 0 rfl rfl ?_
                  refine v_bipush (v := nI 45) F dX8_isPart_194 (by decide) ?_
                  refine v_cVIF F cs_RX8_153 dX8_isPart_196 0 (ci := 8) rfl rfl (m_X8_isSign lau G ad N Hs co len Tw i8 ft v8 (upd (upd (upd (upd (upd td (4 * tn) (nI v2)) ((4 * tn) + 1) (nI v6)) ((4 * tn) + 2) (nI 0)) ((4 * tn) + 3) (nI 99)) ((4 * tn) + 2) (nI v8)) tn Ks Lo Wi 45 (by omega) (by omega) hX) (by decide) rfl rfl (Nat.le_of_ble_eq_true rfl) ⟨Nat.zero_le _, Nat.zero_le _⟩ (fun r85 u86 w87 => ?_)
                  subst w87
                  rcases tq_dash (ft := ft) (vl := v8) (td := (upd (upd (upd (upd (upd td (4 * tn) (nI v2)) ((4 * tn) + 1) (nI v6)) ((4 * tn) + 2) (nI 0)) ((4 * tn) + 3) (nI 99)) ((4 * tn) + 2) (nI v8))) (tn := tn) hR8 hst8 with ⟨hb9, hq9, hR9⟩ | ⟨hb9, hq9, hf⟩
                  · have hi9 := hR9.1
                    refine v_w (w' := wM ad G N Hs (co, len) Tw (i8 + 1, ft, v8, (upd (upd (upd (upd (upd td (4 * tn) (nI v2)) ((4 * tn) + 1) (nI v6)) ((4 * tn) + 2) (nI 0)) ((4 * tn) + 3) (nI 99)) ((4 * tn) + 2) (nI v8)), tn) Ks Lo Wi) (congrArg (fun z_ => wM ad G N Hs (co, len) Tw z_ Ks Lo Wi) hq9) ?_
                    refine v_topi (bI true) (congrArg bI hb9) ?_
                    refine v_if_eq F 219 dX8_isPart_199 (by decide) (fun h => absurd h (by decide)) (fun _ => ?_)
                    refine v_aload_n F dX8_isPart_202 0 rfl rfl ?_
                    refine v_aload_n F dX8_isPart_203 0 rfl rfl ?_
                    refine v_get (v := .ref (ad 4)) F inlX8 (ci := 8) rfl 9 (by decide) rfl wF_RX8_19 dX8_isPart_204 0 rfl rfl ?_
                    refine v_iload_n F dX8_isPart_207 1 rfl rfl ?_
                    refine v_iconst (v := nI 2) F dX8_isPart_208 (by decide) ?_
                    refine v_iadd F dX8_isPart_209 ?_
                    refine v_topi (nI ((4 * tn) + 2)) (nI_add (4 * tn) 2) ?_
                    refine v_ialdN F dX8_isPart_210 4 rfl ((4 * tn) + 2) rfl (by omega) (by decide) ((upd (upd (upd (upd (upd td (4 * tn) (nI v2)) ((4 * tn) + 1) (nI v6)) ((4 * tn) + 2) (nI 0)) ((4 * tn) + 3) (nI 99)) ((4 * tn) + 2) (nI v8)) ((4 * tn) + 2)) rfl ?_
                    refine v_topi (nI v8) (by rw [upd_s]) ?_
                    refine v_bipush (v := nI 99) F dX8_isPart_211 (by decide) ?_
                    refine v_cVIF F cs_RX8_150 dX8_isPart_213 0 (ci := 8) rfl rfl (m_X8_isSmall lau G ad N Hs co len Tw (i8 + 1) ft v8 (upd (upd (upd (upd (upd td (4 * tn) (nI v2)) ((4 * tn) + 1) (nI v6)) ((4 * tn) + 2) (nI 0)) ((4 * tn) + 3) (nI 99)) ((4 * tn) + 2) (nI v8)) tn Ks Lo Wi v8 99 (by omega) (by omega) (by omega) hX) (by decide) rfl rfl (Nat.le_of_ble_eq_true rfl) ⟨Nat.zero_le _, Nat.zero_le _⟩ (fun r88 u89 w90 => ?_)
                    subst w90
                    rcases tq_last (ft := ft) (vl := v8) (td := (upd (upd (upd (upd (upd td (4 * tn) (nI v2)) ((4 * tn) + 1) (nI v6)) ((4 * tn) + 2) (nI 0)) ((4 * tn) + 3) (nI 99)) ((4 * tn) + 2) (nI v8))) (tn := tn) hR9 hv8 with ⟨hb10, i10, v10, hq10, hl10, hv10a, hv10, hR10, hst10⟩ | ⟨hb10, i10, vb_, hq10, hf⟩
                    · have hi10 := hR10.1
                      refine v_w (w' := wM ad G N Hs (co, len) Tw (i10, ft, v10, (upd (upd (upd (upd (upd td (4 * tn) (nI v2)) ((4 * tn) + 1) (nI v6)) ((4 * tn) + 2) (nI 0)) ((4 * tn) + 3) (nI 99)) ((4 * tn) + 2) (nI v8)), tn) Ks Lo Wi) (congrArg (fun z_ => wM ad G N Hs (co, len) Tw z_ Ks Lo Wi) hq10) ?_
                      refine v_topi (bI true) (congrArg bI hb10) ?_
                      refine v_if_ne F 221 dX8_isPart_216 (by decide) (fun _ => ?_) (fun h => absurd h (by decide))
                      refine v_aload_n F dX8_isPart_221 0 rfl rfl ?_
                      refine v_get (v := .ref (ad 4)) F inlX8 (ci := 8) rfl 9 (by decide) rfl wF_RX8_19 dX8_isPart_222 0 rfl rfl ?_
                      refine v_iload_n F dX8_isPart_225 1 rfl rfl ?_
                      refine v_iconst (v := nI 3) F dX8_isPart_226 (by decide) ?_
                      refine v_iadd F dX8_isPart_227 ?_
                      refine v_topi (nI ((4 * tn) + 3)) (nI_add (4 * tn) 3) ?_
                      refine v_aload_n F dX8_isPart_228 0 rfl rfl ?_
                      refine v_get (v := .int (nI v10)) F inlX8 (ci := 8) rfl 8 (by decide) rfl wF_RX8_141 dX8_isPart_229 0 rfl rfl ?_
                      refine v_iastN F dX8_isPart_232 4 rfl ((4 * tn) + 3) rfl (by omega) (by decide) (wM ad G N Hs (co, len) Tw (i10, ft, v10, upd (upd (upd (upd (upd (upd td (4 * tn) (nI v2)) ((4 * tn) + 1) (nI v6)) ((4 * tn) + 2) (nI 0)) ((4 * tn) + 3) (nI 99)) ((4 * tn) + 2) (nI v8)) ((4 * tn) + 3) (nI v10), tn) Ks Lo Wi) rfl ?_
                      refine v_iconst (v := nI 1) F dX8_isPart_233 (by decide) ?_
                      exact v_zret F hr hlk hQ rfl dX8_isPart_234 ((true, i10, ft, v10, upd (upd (upd (upd (upd (upd td (4 * tn) (nI v2)) ((4 * tn) + 1) (nI v6)) ((4 * tn) + 2) (nI 0)) ((4 * tn) + 3) (nI 99)) ((4 * tn) + 2) (nI v8)) ((4 * tn) + 3) (nI v10))) rfl (by exact ⟨rfl, PP_2 (by omega) hR10 hst10 hv10a⟩)
                    · refine v_w (w' := wM ad G N Hs (co, len) Tw (i10, decide (i10 < len), vb_, (upd (upd (upd (upd (upd td (4 * tn) (nI v2)) ((4 * tn) + 1) (nI v6)) ((4 * tn) + 2) (nI 0)) ((4 * tn) + 3) (nI 99)) ((4 * tn) + 2) (nI v8)), tn) Ks Lo Wi) (congrArg (fun z_ => wM ad G N Hs (co, len) Tw z_ Ks Lo Wi) hq10) ?_
                      refine v_topi (bI false) (congrArg bI hb10) ?_
                      refine v_if_ne F 221 dX8_isPart_216 (by decide) (fun h => absurd h (by decide)) (fun _ => ?_)
                      refine v_iconst (v := nI 0) F dX8_isPart_219 (by decide) ?_
                      exact v_zret F hr hlk hQ rfl dX8_isPart_220 ((false, i10, decide (i10 < len), vb_, (upd (upd (upd (upd (upd td (4 * tn) (nI v2)) ((4 * tn) + 1) (nI v6)) ((4 * tn) + 2) (nI 0)) ((4 * tn) + 3) (nI 99)) ((4 * tn) + 2) (nI v8)))) rfl (by exact ⟨rfl, PP_f hf⟩)
                  · refine v_w (w' := wM ad G N Hs (co, len) Tw (i8, decide (i8 < len), v8, (upd (upd (upd (upd (upd td (4 * tn) (nI v2)) ((4 * tn) + 1) (nI v6)) ((4 * tn) + 2) (nI 0)) ((4 * tn) + 3) (nI 99)) ((4 * tn) + 2) (nI v8)), tn) Ks Lo Wi) (congrArg (fun z_ => wM ad G N Hs (co, len) Tw z_ Ks Lo Wi) hq9) ?_
                    refine v_topi (bI false) (congrArg bI hb9) ?_
                    refine v_if_eq F 219 dX8_isPart_199 (by decide) (fun _ => ?_) (fun h => absurd h (by decide))
                    refine v_iconst (v := nI 0) F dX8_isPart_219 (by decide) ?_
                    exact v_zret F hr hlk hQ rfl dX8_isPart_220 ((false, i8, decide (i8 < len), v8, (upd (upd (upd (upd (upd td (4 * tn) (nI v2)) ((4 * tn) + 1) (nI v6)) ((4 * tn) + 2) (nI 0)) ((4 * tn) + 3) (nI 99)) ((4 * tn) + 2) (nI v8)))) rfl (by exact ⟨rfl, PP_f hf⟩)
                · refine v_w (w' := wM ad G N Hs (co, len) Tw (i6 + 1, decide (i6 + 1 < len), vb_, (upd (upd (upd (upd td (4 * tn) (nI v2)) ((4 * tn) + 1) (nI v6)) ((4 * tn) + 2) (nI 0)) ((4 * tn) + 3) (nI 99)), tn) Ks Lo Wi) (congrArg (fun z_ => wM ad G N Hs (co, len) Tw z_ Ks Lo Wi) hq8) ?_
                  refine v_topi (bI false) (congrArg bI hb8) ?_
                  refine v_if_ne F 181 dX8_isPart_176 (by decide) (fun h => absurd h (by decide)) (fun _ => ?_)
                  refine v_iconst (v := nI 0) F dX8_isPart_179 (by decide) ?_
                  exact v_zret F hr hlk hQ rfl dX8_isPart_180 ((false, i6 + 1, decide (i6 + 1 < len), vb_, (upd (upd (upd (upd td (4 * tn) (nI v2)) ((4 * tn) + 1) (nI v6)) ((4 * tn) + 2) (nI 0)) ((4 * tn) + 3) (nI 99)))) rfl (by exact ⟨rfl, PP_f hf⟩)
              · refine v_topi (bI false) (congrArg bI hb7) ?_
                refine v_if_ne F 159 dX8_isPart_154 (by decide) (fun h => absurd h (by decide)) (fun _ => ?_)
                refine v_iconst (v := nI 1) F dX8_isPart_157 (by decide) ?_
                exact v_zret F hr hlk hQ rfl dX8_isPart_158 ((true, i6, ft, v6, upd (upd (upd (upd td (4 * tn) (nI v2)) ((4 * tn) + 1) (nI v6)) ((4 * tn) + 2) (nI 0)) ((4 * tn) + 3) (nI 99))) rfl (by exact ⟨rfl, PP_1 (by omega) hR6 hst6 hx64⟩)
            · refine v_w (w' := wM ad G N Hs (co, len) Tw (i2 + 1 + 1, decide (i2 + 1 + 1 < len), v2, (upd td (4 * tn) (nI v2)), tn) Ks Lo Wi) (congrArg (fun z_ => wM ad G N Hs (co, len) Tw z_ Ks Lo Wi) hq6) ?_
              refine v_topi (bI false) (congrArg bI hb6) ?_
              refine v_if_ne F 103 dX8_isPart_98 (by decide) (fun h => absurd h (by decide)) (fun _ => ?_)
              refine v_iconst (v := nI 0) F dX8_isPart_101 (by decide) ?_
              exact v_zret F hr hlk hQ rfl dX8_isPart_102 ((false, i2 + 1 + 1, decide (i2 + 1 + 1 < len), v2, (upd td (4 * tn) (nI v2)))) rfl (by exact ⟨rfl, PP_f hf⟩)
          · refine v_topi (bI false) (congrArg bI hb5) ?_
            refine v_if_ne F 84 dX8_isPart_76 (by decide) (fun h => absurd h (by decide)) (fun _ => ?_)
            refine v_aload_n F dX8_isPart_79 0 rfl rfl ?_
            refine v_cVIF F cs_RX8_134 dX8_isPart_80 0 (ci := 8) rfl rfl (m_X8_stops lau G ad N Hs co len Tw (i2 + 1) ft v2 (upd td (4 * tn) (nI v2)) tn Ks Lo Wi (by omega) hX) (by decide) rfl rfl (Nat.le_of_ble_eq_true rfl) ⟨Nat.zero_le _, Nat.zero_le _⟩ (fun r91 u92 w93 => ?_)
            subst w93
            exact v_zret F hr hlk hQ (nar_b false) dX8_isPart_83 ((false, (stQ len ((i2 + 1), ft, v2, (upd td (4 * tn) (nI v2)), tn)).1, (stQ len ((i2 + 1), ft, v2, (upd td (4 * tn) (nI v2)), tn)).2.1, (stQ len ((i2 + 1), ft, v2, (upd td (4 * tn) (nI v2)), tn)).2.2.1, (stQ len ((i2 + 1), ft, v2, (upd td (4 * tn) (nI v2)), tn)).2.2.2.1)) rfl (by exact ⟨rfl, PP_f hf⟩)
      · refine v_w (w' := wM ad G N Hs (co, len) Tw (i2, decide (i2 < len), v2, td, tn) Ks Lo Wi) (congrArg (fun z_ => wM ad G N Hs (co, len) Tw z_ Ks Lo Wi) hq3) ?_
        refine v_topi (bI false) (congrArg bI hb3) ?_
        refine v_if_ne F 33 dX8_isPart_28 (by decide) (fun h => absurd h (by decide)) (fun _ => ?_)
        refine v_iconst (v := nI 0) F dX8_isPart_31 (by decide) ?_
        exact v_zret F hr hlk hQ rfl dX8_isPart_32 ((false, i2, decide (i2 < len), v2, td)) rfl (by exact ⟨rfl, PP_f hf⟩)
    · refine v_w (w' := wM ad G N Hs (co, len) Tw (i, decide (i < len), vb_, td, tn) Ks Lo Wi) (congrArg (fun z_ => wM ad G N Hs (co, len) Tw z_ Ks Lo Wi) hq2) ?_
      refine v_topi (bI false) (congrArg bI hb2) ?_
      refine v_if_eq F 31 dX8_isPart_19 (by decide) (fun _ => ?_) (fun h => absurd h (by decide))
      refine v_iconst (v := nI 0) F dX8_isPart_31 (by decide) ?_
      exact v_zret F hr hlk hQ rfl dX8_isPart_32 ((false, i, decide (i < len), vb_, td)) rfl (by exact ⟨rfl, PP_f hf⟩)
theorem cs_RX8_159 : CSV RX8 159 RX8 yX8_isPart cX8_isPart 3 (some .boolean) 0 := ⟨wC_yX8_isPart, wM_RX8_159, wIm_yX8_isPart, wSe_yX8_isPart, wI_RX8, by decide +kernel, by decide⟩
set_option maxHeartbeats 400000 in
set_option maxRecDepth 100000 in
theorem m_X8_isText (lau : Launch) (G : GT) (ad : Nat → Nat) (N : Nat → Int32) (Hs : HT) (co : Nat → Int32) (len : Nat) (Tw : Nat) (i : Nat) (ft : Bool) (vl : Nat) (td : Nat → Int32) (tn : Nat) (Ks : KS) (Lo Wi : Nat → Int32) (dd : DT) (hX : TXOK co len) : MI lau G 5 yX8_isText cX8_isText 2 (some .boolean) [.ref (ad 0)] (wM ad G N Hs (co, len) Tw (i, ft, vl, td, tn) Ks Lo Wi) (fun u : Bool × QT => wM ad G N Hs (co, len) Tw u.2 Ks Lo Wi) (fun r u => r = bI u.1 ∧ TP dd co len u.1 u.2.1 u.2.2.1 u.2.2.2.2.1 u.2.2.2.2.2) := by
  have hlen := hX.1
  refine mi_of (by decide +kernel) (Nat.le_of_ble_eq_true rfl) ?_
  intro p e s m args below meth c A Q F hr hlk hQ
  refine v_st (w' := wM ad G N Hs (co, len) Tw (i, ft, vl, td, tn) Ks Lo Wi) (pc' := 0) (st' := []) rfl rfl rfl [0] (lv' := [(0, .ref (ad 0))]) rfl ?_
  refine v_aload_n F dX8_isText_0 0 rfl rfl ?_
  refine v_iconst (v := nI 0) F dX8_isText_1 (by decide) ?_
  refine v_put F inlX8 (ci := 8) rfl tyX8 tyX8_ok nmX8 6 (by decide) rfl rfl wF_RX8_125 dX8_isText_2 (ty := .int) (by decide +kernel) rfl rfl 0 rfl (Nat.le_of_ble_eq_true rfl) (wM ad G N Hs (co, len) Tw (0, ft, vl, td, tn) Ks Lo Wi) rfl ?_
  refine v_aload_n F dX8_isText_5 0 rfl rfl ?_
  refine v_iconst (v := nI 0) F dX8_isText_6 (by decide) ?_
  refine v_put F inlX8 (ci := 8) rfl tyX8 tyX8_ok nmX8 10 (by decide) rfl rfl wF_RX8_144 dX8_isText_7 (ty := .int) (by decide +kernel) rfl rfl 0 rfl (Nat.le_of_ble_eq_true rfl) (wM ad G N Hs (co, len) Tw (0, ft, vl, td, 0) Ks Lo Wi) rfl ?_
  refine v_aload_n F dX8_isText_10 0 rfl rfl ?_
  refine v_iconst (v := nI 0) F dX8_isText_11 (by decide) ?_
  refine v_put F inlX8 (ci := 8) rfl tyX8 tyX8_ok nmX8 7 (by decide) rfl rfl wF_RX8_127 dX8_isText_12 (ty := .boolean) (by decide +kernel) (nar_b false) (fit_b false) 0 rfl (Nat.le_of_ble_eq_true rfl) (wM ad G N Hs (co, len) Tw (0, false, vl, td, 0) Ks Lo Wi) rfl ?_
  refine v_iconst (v := nI 1) F dX8_isText_15 (by decide) ?_
  refine v_topi (bI true) (rfl) ?_
  refine v_istore_n (lv' := [(1, .int (bI true)), (0, .ref (ad 0))]) F dX8_isText_16 1 rfl (by decide) rfl ?_
  have L17 : ∀ (k_ : Nat) (mo_ : Bool) (i : Nat) (ft : Bool) (vl : Nat) (td : Nat → Int32) (tn : Nat), 14 - tn < k_ → (TI dd co len mo_ i tn td) → V p lau e (RM 5) s m args below meth c 2 G A Q (wM ad G N Hs (co, len) Tw (i, ft, vl, td, tn) Ks Lo Wi) 0 0 17 [(1, .int (bI mo_)), (0, .ref (ad 0))] [] := by
    intro k_
    induction k_ with
    | zero => exact fun mo_ i ft vl td tn hk_ hTI => absurd hk_ (Nat.not_lt_zero _)
    | succ k_ ih17 =>
      intro mo_ i ft vl td tn hk_17 hTI
      have htn := TI_tn hlen hTI
      have hile := hTI.1
      refine v_iload_n F dX8_isText_17 1 rfl rfl ?_
      refine v_if_eq F 70 dX8_isText_18 (by decide) (fun c1 => ?_) (fun c1 => ?_)
      · replace c1 := bI_f c1
        subst c1
        refine v_aload_n F dX8_isText_70 0 rfl rfl ?_
        refine v_aload_n F dX8_isText_71 0 rfl rfl ?_
        refine v_get (v := .int (nI i)) F inlX8 (ci := 8) rfl 6 (by decide) rfl wF_RX8_125 dX8_isText_72 0 rfl rfl ?_
        refine v_aload_n F dX8_isText_75 0 rfl rfl ?_
        refine v_get (v := .int (nI len)) F inlX8 (ci := 8) rfl 4 (by decide) rfl wF_RX8_122 dX8_isText_76 0 rfl rfl ?_
        refine v_icmp_ge F 86 dX8_isText_79 (by decide) (fun h79 => ?_) (fun h79 => ?_)
        · replace h79 := nG (a := i) (b := len) (by omega) (by omega) h79
          refine v_iconst (v := nI 0) F dX8_isText_86 (by decide) ?_
          refine v_put F inlX8 (ci := 8) rfl tyX8 tyX8_ok nmX8 7 (by decide) rfl rfl wF_RX8_127 dX8_isText_87 (ty := .boolean) (by decide +kernel) (nar_b false) (fit_b false) 0 rfl (Nat.le_of_ble_eq_true rfl) (wM ad G N Hs (co, len) Tw (i, false, vl, td, tn) Ks Lo Wi) rfl ?_
          refine v_aload_n F dX8_isText_90 0 rfl rfl ?_
          refine v_get (v := .int (nI i)) F inlX8 (ci := 8) rfl 6 (by decide) rfl wF_RX8_125 dX8_isText_91 0 rfl rfl ?_
          refine v_aload_n F dX8_isText_94 0 rfl rfl ?_
          refine v_get (v := .int (nI len)) F inlX8 (ci := 8) rfl 4 (by decide) rfl wF_RX8_122 dX8_isText_95 0 rfl rfl ?_
          refine v_icmp_ne F 105 dX8_isText_98 (by decide) (fun h98 => ?_) (fun h98 => ?_)
          · replace h98 := nEn (a := i) (b := len) (by omega) (by omega) h98
            refine v_iconst (v := nI 0) F dX8_isText_105 (by decide) ?_
            exact v_zret F hr hlk hQ rfl dX8_isText_106 ((false, i, false, vl, td, tn)) rfl (by first | (exfalso; omega) | exact ⟨rfl, TP_1 hTI h79⟩ | exact ⟨rfl, TP_1 hTI (Nat.lt_of_not_le h79)⟩ | exact ⟨rfl, TP_2 hlen hTI h98⟩)
          · replace h98 := nE (a := i) (b := len) (by omega) (by omega) h98
            refine v_iconst (v := nI 1) F dX8_isText_101 (by decide) ?_
            refine v_goto F 106 dX8_isText_102 (by decide) ?_
            exact v_zret F hr hlk hQ rfl dX8_isText_106 ((true, i, false, vl, td, tn)) rfl (by first | (exfalso; omega) | exact ⟨rfl, TP_1 hTI h79⟩ | exact ⟨rfl, TP_1 hTI (Nat.lt_of_not_le h79)⟩ | exact ⟨rfl, TP_2 hlen hTI h98⟩)
        · replace h79 := nGn (a := i) (b := len) (by omega) (by omega) h79
          refine v_iconst (v := nI 1) F dX8_isText_82 (by decide) ?_
          refine v_goto F 87 dX8_isText_83 (by decide) ?_
          refine v_put F inlX8 (ci := 8) rfl tyX8 tyX8_ok nmX8 7 (by decide) rfl rfl wF_RX8_127 dX8_isText_87 (ty := .boolean) (by decide +kernel) (nar_b true) (fit_b true) 0 rfl (Nat.le_of_ble_eq_true rfl) (wM ad G N Hs (co, len) Tw (i, true, vl, td, tn) Ks Lo Wi) rfl ?_
          refine v_aload_n F dX8_isText_90 0 rfl rfl ?_
          refine v_get (v := .int (nI i)) F inlX8 (ci := 8) rfl 6 (by decide) rfl wF_RX8_125 dX8_isText_91 0 rfl rfl ?_
          refine v_aload_n F dX8_isText_94 0 rfl rfl ?_
          refine v_get (v := .int (nI len)) F inlX8 (ci := 8) rfl 4 (by decide) rfl wF_RX8_122 dX8_isText_95 0 rfl rfl ?_
          refine v_icmp_ne F 105 dX8_isText_98 (by decide) (fun h98 => ?_) (fun h98 => ?_)
          · replace h98 := nEn (a := i) (b := len) (by omega) (by omega) h98
            refine v_iconst (v := nI 0) F dX8_isText_105 (by decide) ?_
            exact v_zret F hr hlk hQ rfl dX8_isText_106 ((false, i, true, vl, td, tn)) rfl (by first | (exfalso; omega) | exact ⟨rfl, TP_1 hTI h79⟩ | exact ⟨rfl, TP_1 hTI (Nat.lt_of_not_le h79)⟩ | exact ⟨rfl, TP_2 hlen hTI h98⟩)
          · replace h98 := nE (a := i) (b := len) (by omega) (by omega) h98
            refine v_iconst (v := nI 1) F dX8_isText_101 (by decide) ?_
            refine v_goto F 106 dX8_isText_102 (by decide) ?_
            exact v_zret F hr hlk hQ rfl dX8_isText_106 ((true, i, true, vl, td, tn)) rfl (by first | (exfalso; omega) | exact ⟨rfl, TP_1 hTI h79⟩ | exact ⟨rfl, TP_1 hTI (Nat.lt_of_not_le h79)⟩ | exact ⟨rfl, TP_2 hlen hTI h98⟩)
      · replace c1 := bI_t c1
        subst c1
        obtain ⟨nu, sl, off, fi, hRS⟩ := TI_RS hTI
        refine v_aload_n F dX8_isText_21 0 rfl rfl ?_
        refine v_cVIF F cs_RX8_159 dX8_isText_22 0 (ci := 8) rfl rfl (m_X8_isPart lau G ad N Hs co len Tw i ft vl td tn Ks Lo Wi dd nu sl off fi hX (by omega) hRS) (by decide) rfl rfl (Nat.le_of_ble_eq_true rfl) ⟨Nat.zero_le _, Nat.zero_le _⟩ (fun r2 u3 w4 => ?_)
        obtain ⟨ub, ui, uf, uv, ut⟩ := u3
        obtain ⟨hr_, hP⟩ := w4
        refine v_w (w' := wM ad G N Hs (co, len) Tw (ui, uf, uv, ut, tn) Ks Lo Wi) rfl ?_
        refine v_topi (bI ub) hr_ ?_
        have hui := PP_le hP
        cases ub
        · refine v_if_ne F 30 dX8_isText_25 (by decide) (fun h => absurd h (by decide)) (fun _ => ?_)
          refine v_iconst (v := nI 0) F dX8_isText_28 (by decide) ?_
          exact v_zret F hr hlk hQ rfl dX8_isText_29 ((false, ui, uf, uv, ut, tn)) rfl (by exact ⟨rfl, TP_f (hP.1 rfl)⟩)
        · refine v_if_ne F 30 dX8_isText_25 (by decide) (fun _ => ?_) (fun h => absurd h (by decide))
          refine v_aload_n F dX8_isText_30 0 rfl rfl ?_
          refine v_dup F dX8_isText_31 rfl ?_
          refine v_get (v := .int (nI tn)) F inlX8 (ci := 8) rfl 10 (by decide) rfl wF_RX8_144 dX8_isText_32 0 rfl rfl ?_
          refine v_iconst (v := nI 1) F dX8_isText_35 (by decide) ?_
          refine v_iadd F dX8_isText_36 ?_
          refine v_topi (nI (tn + 1)) (nI_add tn 1) ?_
          refine v_put F inlX8 (ci := 8) rfl tyX8 tyX8_ok nmX8 10 (by decide) rfl rfl wF_RX8_144 dX8_isText_37 (ty := .int) (by decide +kernel) rfl rfl 0 rfl (Nat.le_of_ble_eq_true rfl) (wM ad G N Hs (co, len) Tw (ui, uf, uv, ut, tn + 1) Ks Lo Wi) rfl ?_
          refine v_aload_n F dX8_isText_40 0 rfl rfl ?_
          refine v_bipush (v := nI 59) F dX8_isText_41 (by decide) ?_
          refine v_bipush (v := nI 59) F dX8_isText_43 (by decide) ?_
          refine v_cVIF F cs_RX8_131 dX8_isText_45 0 (ci := 8) rfl rfl (m_X8_isAt lau G ad N Hs co len Tw ui uf uv ut (tn + 1) Ks Lo Wi 59 59 (by omega) (by omega) (by omega) hX) (by decide) rfl rfl (Nat.le_of_ble_eq_true rfl) ⟨Nat.zero_le _, Nat.zero_le _⟩ (fun r5 u6 w7 => ?_)
          subst w7
          rcases TI_next hTI hP with ⟨hb, hT2⟩ | ⟨hb, hT2⟩
          · refine v_topi (bI true) (congrArg bI hb) ?_
            refine v_istore_n (lv' := [(1, .int (bI true)), (0, .ref (ad 0))]) F dX8_isText_48 1 rfl (by decide) rfl ?_
            refine v_aload_n F dX8_isText_49 0 rfl rfl ?_
            refine v_dup F dX8_isText_50 rfl ?_
            refine v_get (v := .int (nI ui)) F inlX8 (ci := 8) rfl 6 (by decide) rfl wF_RX8_125 dX8_isText_51 0 rfl rfl ?_
            refine v_iload_n F dX8_isText_54 1 rfl rfl ?_
            refine v_if_eq F 62 dX8_isText_55 (by decide) (fun h => absurd h (by decide)) (fun _ => ?_)
            refine v_iconst (v := nI 1) F dX8_isText_58 (by decide) ?_
            refine v_goto F 63 dX8_isText_59 (by decide) ?_
            refine v_iadd F dX8_isText_63 ?_
            refine v_topi (nI (ui + 1)) (nI_add ui 1) ?_
            refine v_put F inlX8 (ci := 8) rfl tyX8 tyX8_ok nmX8 6 (by decide) rfl rfl wF_RX8_125 dX8_isText_64 (ty := .int) (by decide +kernel) rfl rfl 0 rfl (Nat.le_of_ble_eq_true rfl) (wM ad G N Hs (co, len) Tw (ui + 1, uf, uv, ut, tn + 1) Ks Lo Wi) rfl ?_
            refine v_goto F 17 dX8_isText_67 (by decide) ?_
            refine v_st (w' := wM ad G N Hs (co, len) Tw (ui + 1, uf, uv, ut, tn + 1) Ks Lo Wi) (pc' := 17) (st' := []) rfl rfl rfl [0, 1] (lv' := [(1, .int (bI true)), (0, .ref (ad 0))]) rfl ?_
            exact ih17 true (ui + 1) uf uv ut (tn + 1) (by omega) (hT2)
          · refine v_topi (bI false) (congrArg bI hb) ?_
            refine v_istore_n (lv' := [(1, .int (bI false)), (0, .ref (ad 0))]) F dX8_isText_48 1 rfl (by decide) rfl ?_
            refine v_aload_n F dX8_isText_49 0 rfl rfl ?_
            refine v_dup F dX8_isText_50 rfl ?_
            refine v_get (v := .int (nI ui)) F inlX8 (ci := 8) rfl 6 (by decide) rfl wF_RX8_125 dX8_isText_51 0 rfl rfl ?_
            refine v_iload_n F dX8_isText_54 1 rfl rfl ?_
            refine v_if_eq F 62 dX8_isText_55 (by decide) (fun _ => ?_) (fun h => absurd h (by decide))
            refine v_iconst (v := nI 0) F dX8_isText_62 (by decide) ?_
            refine v_iadd F dX8_isText_63 ?_
            refine v_topi (nI (ui + 0)) (nI_add ui 0) ?_
            refine v_put F inlX8 (ci := 8) rfl tyX8 tyX8_ok nmX8 6 (by decide) rfl rfl wF_RX8_125 dX8_isText_64 (ty := .int) (by decide +kernel) rfl rfl 0 rfl (Nat.le_of_ble_eq_true rfl) (wM ad G N Hs (co, len) Tw (ui + 0, uf, uv, ut, tn + 1) Ks Lo Wi) rfl ?_
            refine v_goto F 17 dX8_isText_67 (by decide) ?_
            refine v_st (w' := wM ad G N Hs (co, len) Tw (ui + 0, uf, uv, ut, tn + 1) Ks Lo Wi) (pc' := 17) (st' := []) rfl rfl rfl [0, 1] (lv' := [(1, .int (bI false)), (0, .ref (ad 0))]) rfl ?_
            exact ih17 false (ui + 0) uf uv ut (tn + 1) (by omega) (hT2)
  refine v_st (w' := wM ad G N Hs (co, len) Tw (0, false, vl, td, 0) Ks Lo Wi) (pc' := 17) (st' := []) rfl rfl rfl [0, 1] (lv' := [(1, .int (bI true)), (0, .ref (ad 0))]) rfl ?_
  exact L17 _ true 0 false vl td 0 (Nat.lt_succ_self _) (TI_0 dd co len td)
theorem cs_RX8_162 : CSV RX8 162 RX8 yX8_isText cX8_isText 2 (some .boolean) 0 := ⟨wC_yX8_isText, wM_RX8_162, wIm_yX8_isText, wSe_yX8_isText, wI_RX8, by decide +kernel, by decide⟩
set_option maxHeartbeats 400000 in
set_option maxRecDepth 100000 in
theorem m_X8_firstError (lau : Launch) (G : GT) (ad : Nat → Nat) (N : Nat → Int32) (Hs : HT) (co : Nat → Int32) (len : Nat) (Tw : Nat) (i : Nat) (ft : Bool) (vl : Nat) (td : Nat → Int32) (tn : Nat) (Ks : KS) (Lo Wi : Nat → Int32) (dd : DT) (hX : TXOK co len) : MI lau G 6 yX8_firstError cX8_firstError 2 (some .int) [.ref (ad 0)] (wM ad G N Hs (co, len) Tw (i, ft, vl, td, tn) Ks Lo Wi) (fun u : MS => wM ad G u.1 u.2.1 u.2.2.1 (0) u.2.2.2.1 u.2.2.2.2.1 u.2.2.2.2.2.1 u.2.2.2.2.2.2) (fun r u => (0 = 0 → r = nI (rErr dd co len) ∧ u.1 = N ∧ u.2.1 = Hs ∧ u.2.2.1 = (co, len)) ∧ (¬ 0 = 0 → u.1 = N ∧ u.2.1 = Hs ∧ u.2.2.1 = (co, len))) := by
  refine mi_of (by decide +kernel) (Nat.le_of_ble_eq_true rfl) ?_
  intro p e s m args below meth c A Q F hr hlk hQ
  refine v_st (w' := wM ad G N Hs (co, len) Tw (i, ft, vl, td, tn) Ks Lo Wi) (pc' := 0) (st' := []) rfl rfl rfl [0] (lv' := [(0, .ref (ad 0))]) rfl ?_
  refine v_aload_n F dX8_firstError_0 0 rfl rfl ?_
  refine v_iconst (v := nI 0) F dX8_firstError_1 (by decide) ?_
  refine v_put F inlX8 (ci := 8) rfl tyX8 tyX8_ok nmX8 5 (by decide) rfl rfl wF_RX8_35 dX8_firstError_2 (ty := .int) (by decide +kernel) rfl rfl 0 rfl (Nat.le_of_ble_eq_true rfl) (wM ad G N Hs (co, len) (0) (i, ft, vl, td, tn) Ks Lo Wi) rfl ?_
  refine v_aload_n F dX8_firstError_5 0 rfl rfl ?_
  refine v_cVIF F cs_RX8_162 dX8_firstError_6 0 (ci := 8) rfl rfl (m_X8_isText lau G ad N Hs co len (0) i ft vl td tn Ks Lo Wi dd hX) (by decide) rfl rfl (Nat.le_of_ble_eq_true rfl) ⟨Nat.zero_le _, Nat.zero_le _⟩ (fun r1 u2 w3 => ?_)
  obtain ⟨ub, ui, uf, uv, ut, un_⟩ := u2
  obtain ⟨hr_, hT⟩ := w3
  refine v_w (w' := wM ad G N Hs (co, len) (0) (ui, uf, uv, ut, un_) Ks Lo Wi) rfl ?_
  refine v_topi (bI ub) hr_ ?_
  have hT : TP dd co len ub ui uf ut un_ := hT
  replace hr_ : r1 = bI ub := hr_
  obtain ⟨hT1, hT2, hT3, hT4, hT5⟩ := hT
  cases ub
  · refine v_istore_n (lv' := [(1, .int (bI false)), (0, .ref (ad 0))]) F dX8_firstError_9 1 rfl (by decide) rfl ?_
    refine v_iload_n F dX8_firstError_10 1 rfl rfl ?_
    refine v_if_ne F 28 dX8_firstError_11 (by decide) (fun h => absurd h (by decide)) (fun _ => ?_)
    refine v_aload_n F dX8_firstError_14 0 rfl rfl ?_
    refine v_get (v := .int (bI uf)) F inlX8 (ci := 8) rfl 7 (by decide) rfl wF_RX8_127 dX8_firstError_15 0 rfl rfl ?_
    refine v_if_eq F 28 dX8_firstError_18 (by decide) (fun c4 => ?_) (fun c4 => ?_)
    · replace c4 := bI_f c4
      subst c4
      have hv : nI len = nI (rErr dd co len) := congrArg nI (hT5 rfl rfl).symm
      refine v_aload_n F dX8_firstError_28 0 rfl rfl ?_
      refine v_get (v := .int (nI len)) F inlX8 (ci := 8) rfl 4 (by decide) rfl wF_RX8_122 dX8_firstError_29 0 rfl rfl ?_
      exact v_iret F hr hlk hQ dX8_firstError_32 ((N, Hs, (co, len), (ui, false, uv, ut, un_), Ks, Lo, Wi)) rfl (by first | (refine ⟨fun q => absurd q ?_, fun _ => ⟨rfl, rfl, rfl⟩⟩; simp; done) | (refine ⟨fun _ => ⟨?_, ?_, ?_, ?_⟩, fun q => absurd ?_ q⟩; (exact hv); (rfl); (rfl); (rfl); simp; done))
    · replace c4 := bI_t c4
      subst c4
      have hv : nI ui = nI (rErr dd co len) := congrArg nI (hT4 rfl rfl)
      refine v_aload_n F dX8_firstError_21 0 rfl rfl ?_
      refine v_get (v := .int (nI ui)) F inlX8 (ci := 8) rfl 6 (by decide) rfl wF_RX8_125 dX8_firstError_22 0 rfl rfl ?_
      refine v_goto F 32 dX8_firstError_25 (by decide) ?_
      exact v_iret F hr hlk hQ dX8_firstError_32 ((N, Hs, (co, len), (ui, true, uv, ut, un_), Ks, Lo, Wi)) rfl (by first | (refine ⟨fun q => absurd q ?_, fun _ => ⟨rfl, rfl, rfl⟩⟩; simp; done) | (refine ⟨fun _ => ⟨?_, ?_, ?_, ?_⟩, fun q => absurd ?_ q⟩; (exact hv); (rfl); (rfl); (rfl); simp; done))
  · have hv : nI len = nI (rErr dd co len) := congrArg nI (hT3 rfl).2.2.1.symm
    refine v_istore_n (lv' := [(1, .int (bI true)), (0, .ref (ad 0))]) F dX8_firstError_9 1 rfl (by decide) rfl ?_
    refine v_iload_n F dX8_firstError_10 1 rfl rfl ?_
    refine v_if_ne F 28 dX8_firstError_11 (by decide) (fun _ => ?_) (fun h => absurd h (by decide))
    refine v_aload_n F dX8_firstError_28 0 rfl rfl ?_
    refine v_get (v := .int (nI len)) F inlX8 (ci := 8) rfl 4 (by decide) rfl wF_RX8_122 dX8_firstError_29 0 rfl rfl ?_
    exact v_iret F hr hlk hQ dX8_firstError_32 ((N, Hs, (co, len), (ui, uf, uv, ut, un_), Ks, Lo, Wi)) rfl (by first | (refine ⟨fun q => absurd q ?_, fun _ => ⟨rfl, rfl, rfl⟩⟩; simp; done) | (refine ⟨fun _ => ⟨?_, ?_, ?_, ?_⟩, fun q => absurd ?_ q⟩; (exact hv); (rfl); (rfl); (rfl); simp; done))
set_option maxHeartbeats 400000 in
set_option maxRecDepth 100000 in
theorem m_X8_addAll (lau : Launch) (G : GT) (ad : Nat → Nat) (T : Nat → Int32) (n mo : Nat) (S : Nat → Int32) (h : Nat) (co : Nat → Int32) (len : Nat) (Tw : Nat) (i : Nat) (ft : Bool) (vl : Nat) (td : Nat → Int32) (tn : Nat) (Ks : KS) (Lo Wi : Nat → Int32) (dd : DT) (hX : TXOK co len) (hn : n ≤ 20) (hh : h ≤ 6) : MI lau G 7 yX8_addAll cX8_addAll 2 (some .int) [.ref (ad 0)] (wM ad G (snp T n mo) (S, h) (co, len) Tw (i, ft, vl, td, tn) Ks Lo Wi) (fun u : MS => wM ad G u.1 u.2.1 u.2.2.1 (xAll n dd co len) u.2.2.2.1 u.2.2.2.2.1 u.2.2.2.2.2.1 u.2.2.2.2.2.2) (fun r u => (xAll n dd co len = 0 → r = nI (n + (sc co len + 1)) ∧ u.1 = snp (rWs dd co T n len) (n + (sc co len + 1)) mo ∧ u.2.1 = (pSave S h T n mo, pSaveH h) ∧ u.2.2.1 = (co, 0)) ∧ (¬ xAll n dd co len = 0 → u.1 = snp T n mo ∧ u.2.1 = (S, h) ∧ u.2.2.1 = (co, len))) := by
  refine mi_of (by decide +kernel) (Nat.le_of_ble_eq_true rfl) ?_
  intro p e s m args below meth c A Q F hr hlk hQ
  refine v_st (w' := wM ad G (snp T n mo) (S, h) (co, len) Tw (i, ft, vl, td, tn) Ks Lo Wi) (pc' := 0) (st' := []) rfl rfl rfl [0] (lv' := [(0, .ref (ad 0))]) rfl ?_
  refine v_aload_n F dX8_addAll_0 0 rfl rfl ?_
  refine v_iconst (v := nI 0) F dX8_addAll_1 (by decide) ?_
  refine v_put F inlX8 (ci := 8) rfl tyX8 tyX8_ok nmX8 5 (by decide) rfl rfl wF_RX8_35 dX8_addAll_2 (ty := .int) (by decide +kernel) rfl rfl 0 rfl (Nat.le_of_ble_eq_true rfl) (wM ad G (snp T n mo) (S, h) (co, len) (0) (i, ft, vl, td, tn) Ks Lo Wi) rfl ?_
  refine v_aload_n F dX8_addAll_5 0 rfl rfl ?_
  refine v_cVIF F cs_RX8_162 dX8_addAll_6 0 (ci := 8) rfl rfl (m_X8_isText lau G ad (snp T n mo) (S, h) co len (0) i ft vl td tn Ks Lo Wi dd hX) (by decide) rfl rfl (Nat.le_of_ble_eq_true rfl) ⟨Nat.zero_le _, Nat.zero_le _⟩ (fun r1 u2 w3 => ?_)
  obtain ⟨ub, ui, uf, uv, ut, un_⟩ := u2
  obtain ⟨hr_, hT⟩ := w3
  refine v_w (w' := wM ad G (snp T n mo) (S, h) (co, len) (0) (ui, uf, uv, ut, un_) Ks Lo Wi) rfl ?_
  refine v_topi (bI ub) hr_ ?_
  have hT : TP dd co len ub ui uf ut un_ := hT
  replace hr_ : r1 = bI ub := hr_
  obtain ⟨hT1, hT2, hT3, hT4, hT5⟩ := hT
  cases ub
  · have hxa : xAll n dd co len = 1 := if_pos hT1.symm
    refine v_if_ne F 18 dX8_addAll_9 (by decide) (fun h => absurd h (by decide)) (fun _ => ?_)
    refine v_aload_n F dX8_addAll_12 0 rfl rfl ?_
    refine v_iconst (v := nI 1) F dX8_addAll_13 (by decide) ?_
    refine v_cVIF F cs_RX8_46 dX8_addAll_14 0 (ci := 8) rfl rfl (m_X8_fails lau G ad (snp T n mo) (S, h) (co, len) (0) (ui, uf, uv, ut, un_) Ks Lo Wi 1 ) (by decide) rfl rfl (Nat.le_of_ble_eq_true rfl) ⟨Nat.zero_le _, Nat.zero_le _⟩ (fun r4 u5 w6 => ?_)
    subst w6
    refine v_w (w' := wM ad G (snp T n mo) (S, h) (co, len) (xAll n dd co len) (ui, uf, uv, ut, un_) Ks Lo Wi) (congrArg (fun z_ => wM ad G (snp T n mo) (S, h) (co, len) z_ (ui, uf, uv, ut, un_) Ks Lo Wi) (show 1 = (xAll n dd co len) by simp [if_true, *])) ?_
    exact v_iret F hr hlk hQ dX8_addAll_17 (((snp T n mo), (S, h), (co, len), (ui, uf, uv, ut, un_), Ks, Lo, Wi)) rfl (by first | (refine ⟨fun q => absurd q ?_, fun _ => ⟨rfl, rfl, rfl⟩⟩; simp [if_true, *]; done) | (refine ⟨fun _ => ⟨?_, ?_, ?_, ?_⟩, fun q => absurd ?_ q⟩; (rw [hT3a]); (rw [hT3c, hT3a]); (rfl); (rfl); simp [if_true, *]; done))
  · obtain ⟨hT3a, hT3b, -, hT3c⟩ := hT3 rfl
    refine v_if_ne F 18 dX8_addAll_9 (by decide) (fun _ => ?_) (fun h => absurd h (by decide))
    refine v_aload_n F dX8_addAll_18 0 rfl rfl ?_
    refine v_get (v := .ref (ad 1)) F inlX8 (ci := 8) rfl 0 (by decide) rfl wF_RX8_7 dX8_addAll_19 0 rfl rfl ?_
    refine v_iconst (v := nI 1) F dX8_addAll_22 (by decide) ?_
    refine v_ialdN F dX8_addAll_23 1 rfl 1 rfl (by omega) (by decide) ((snp T n mo) 1) rfl ?_
    refine v_topi (nI n) rfl ?_
    refine v_aload_n F dX8_addAll_24 0 rfl rfl ?_
    refine v_get (v := .int (nI un_)) F inlX8 (ci := 8) rfl 10 (by decide) rfl wF_RX8_144 dX8_addAll_25 0 rfl rfl ?_
    refine v_iadd F dX8_addAll_28 ?_
    refine v_topi (nI (n + un_)) (nI_add n un_) ?_
    refine v_bipush (v := nI 20) F dX8_addAll_29 (by decide) ?_
    refine v_icmp_le F 40 dX8_addAll_31 (by decide) (fun c7 => ?_) (fun c7 => ?_)
    · replace c7 := nK (a := (n + un_)) (b := 20) (by omega) (by decide) c7
      have hxa : xAll n dd co len = 0 := by rw [xAll, if_neg (by rw [← hT1]; decide), if_neg (by omega)]
      refine v_aload_n F dX8_addAll_40 0 rfl rfl ?_
      refine v_cVVF F cs_RX8_71 dX8_addAll_41 0 (ci := 8) rfl rfl (m_X8_saves lau G ad T n mo S h (co, len) (0) (ui, uf, uv, ut, un_) Ks Lo Wi (by omega)) (by decide) rfl rfl (Nat.le_of_ble_eq_true rfl) ⟨Nat.zero_le _, Nat.zero_le _⟩ (fun u9 w10 => ?_)
      refine v_aload_n F dX8_addAll_44 0 rfl rfl ?_
      refine v_iconst (v := nI 0) F dX8_addAll_45 (by decide) ?_
      refine v_put F inlX8 (ci := 8) rfl tyX8 tyX8_ok nmX8 4 (by decide) rfl rfl wF_RX8_122 dX8_addAll_46 (ty := .int) (by decide +kernel) rfl rfl 0 rfl (Nat.le_of_ble_eq_true rfl) (wM ad G (snp T n mo) (pSave S h T n mo, pSaveH h) (co, 0) (0) (ui, uf, uv, ut, un_) Ks Lo Wi) rfl ?_
      refine v_iconst (v := nI 0) F dX8_addAll_49 (by decide) ?_
      refine v_istore_n (lv' := [(1, .int (nI 0)), (0, .ref (ad 0))]) F dX8_addAll_50 1 rfl (by decide) rfl ?_
      have L51 : ∀ (k_ : Nat) (k : Nat), un_ - k < k_ → (k ≤ un_) → V p lau e (RM 7) s m args below meth c 2 G A Q (wM ad G (snp (cm ut T n k) (n + k) mo) (pSave S h T n mo, pSaveH h) (co, 0) (0) (ui, uf, uv, ut, un_) Ks Lo Wi) 0 0 51 [(1, .int (nI k)), (0, .ref (ad 0))] [] := by
        intro k_
        induction k_ with
        | zero => exact fun k hk_ hk => absurd hk_ (Nat.not_lt_zero _)
        | succ k_ ih51 =>
          intro k hk_51 hk
          refine v_iload_n F dX8_addAll_51 1 rfl rfl ?_
          refine v_aload_n F dX8_addAll_52 0 rfl rfl ?_
          refine v_get (v := .int (nI un_)) F inlX8 (ci := 8) rfl 10 (by decide) rfl wF_RX8_144 dX8_addAll_53 0 rfl rfl ?_
          refine v_icmp_ge F 107 dX8_addAll_56 (by decide) (fun c11 => ?_) (fun c11 => ?_)
          · replace c11 := nG (a := k) (b := un_) (by omega) (by omega) c11
            have hke : k = un_ := by omega
            subst hke
            refine v_aload_n F dX8_addAll_107 0 rfl rfl ?_
            refine v_get (v := .ref (ad 1)) F inlX8 (ci := 8) rfl 0 (by decide) rfl wF_RX8_7 dX8_addAll_108 0 rfl rfl ?_
            refine v_iconst (v := nI 1) F dX8_addAll_111 (by decide) ?_
            refine v_ialdN F dX8_addAll_112 1 rfl 1 rfl (by omega) (by decide) ((snp (cm ut T n k) (n + k) mo) 1) rfl ?_
            refine v_topi (nI (n + k)) rfl ?_
            refine v_w (w' := wM ad G (snp (cm ut T n k) (n + k) mo) (pSave S h T n mo, pSaveH h) (co, 0) (xAll n dd co len) (ui, uf, uv, ut, k) Ks Lo Wi) (congrArg (fun z_ => wM ad G (snp (cm ut T n k) (n + k) mo) (pSave S h T n mo, pSaveH h) (co, 0) z_ (ui, uf, uv, ut, k) Ks Lo Wi) (show (0) = (xAll n dd co len) by simp [if_true, *])) ?_
            exact v_iret F hr hlk hQ dX8_addAll_113 (((snp (cm ut T n k) (n + k) mo), (pSave S h T n mo, pSaveH h), (co, 0), (ui, uf, uv, ut, k), Ks, Lo, Wi)) rfl (by first | (refine ⟨fun q => absurd q ?_, fun _ => ⟨rfl, rfl, rfl⟩⟩; simp [if_true, *]; done) | (refine ⟨fun _ => ⟨?_, ?_, ?_, ?_⟩, fun q => absurd ?_ q⟩; (rw [hT3a]); (rw [hT3c, hT3a]); (rfl); (rfl); simp [if_true, *]; done))
          · replace c11 := nGn (a := k) (b := un_) (by omega) (by omega) c11
            refine v_aload_n F dX8_addAll_59 0 rfl rfl ?_
            refine v_aload_n F dX8_addAll_60 0 rfl rfl ?_
            refine v_get (v := .ref (ad 4)) F inlX8 (ci := 8) rfl 9 (by decide) rfl wF_RX8_19 dX8_addAll_61 0 rfl rfl ?_
            refine v_iconst (v := nI 4) F dX8_addAll_64 (by decide) ?_
            refine v_iload_n F dX8_addAll_65 1 rfl rfl ?_
            refine v_imul F dX8_addAll_66 ?_
            refine v_topi (nI (4 * k)) (pk_mul 4 k) ?_
            refine v_ialdN F dX8_addAll_67 4 rfl (4 * k) rfl (by omega) (by decide) (ut (4 * k)) rfl ?_
            refine v_aload_n F dX8_addAll_68 0 rfl rfl ?_
            refine v_get (v := .ref (ad 4)) F inlX8 (ci := 8) rfl 9 (by decide) rfl wF_RX8_19 dX8_addAll_69 0 rfl rfl ?_
            refine v_iconst (v := nI 4) F dX8_addAll_72 (by decide) ?_
            refine v_iload_n F dX8_addAll_73 1 rfl rfl ?_
            refine v_imul F dX8_addAll_74 ?_
            refine v_topi (nI (4 * k)) (pk_mul 4 k) ?_
            refine v_iconst (v := nI 1) F dX8_addAll_75 (by decide) ?_
            refine v_iadd F dX8_addAll_76 ?_
            refine v_topi (nI ((4 * k) + 1)) (nI_add (4 * k) 1) ?_
            refine v_ialdN F dX8_addAll_77 4 rfl ((4 * k) + 1) rfl (by omega) (by decide) (ut ((4 * k) + 1)) rfl ?_
            refine v_aload_n F dX8_addAll_78 0 rfl rfl ?_
            refine v_get (v := .ref (ad 4)) F inlX8 (ci := 8) rfl 9 (by decide) rfl wF_RX8_19 dX8_addAll_79 0 rfl rfl ?_
            refine v_iconst (v := nI 4) F dX8_addAll_82 (by decide) ?_
            refine v_iload_n F dX8_addAll_83 1 rfl rfl ?_
            refine v_imul F dX8_addAll_84 ?_
            refine v_topi (nI (4 * k)) (pk_mul 4 k) ?_
            refine v_iconst (v := nI 2) F dX8_addAll_85 (by decide) ?_
            refine v_iadd F dX8_addAll_86 ?_
            refine v_topi (nI ((4 * k) + 2)) (nI_add (4 * k) 2) ?_
            refine v_ialdN F dX8_addAll_87 4 rfl ((4 * k) + 2) rfl (by omega) (by decide) (ut ((4 * k) + 2)) rfl ?_
            refine v_aload_n F dX8_addAll_88 0 rfl rfl ?_
            refine v_get (v := .ref (ad 4)) F inlX8 (ci := 8) rfl 9 (by decide) rfl wF_RX8_19 dX8_addAll_89 0 rfl rfl ?_
            refine v_iconst (v := nI 4) F dX8_addAll_92 (by decide) ?_
            refine v_iload_n F dX8_addAll_93 1 rfl rfl ?_
            refine v_imul F dX8_addAll_94 ?_
            refine v_topi (nI (4 * k)) (pk_mul 4 k) ?_
            refine v_iconst (v := nI 3) F dX8_addAll_95 (by decide) ?_
            refine v_iadd F dX8_addAll_96 ?_
            refine v_topi (nI ((4 * k) + 3)) (nI_add (4 * k) 3) ?_
            refine v_ialdN F dX8_addAll_97 4 rfl ((4 * k) + 3) rfl (by omega) (by decide) (ut ((4 * k) + 3)) rfl ?_
            refine v_cVVF F cs_RX8_74 dX8_addAll_98 0 (ci := 8) rfl rfl (m_X8_comes lau G ad (cm ut T n k) (n + k) mo (pSave S h T n mo, pSaveH h) (co, 0) (0) (ui, uf, uv, ut, un_) Ks Lo Wi (ut (4 * k)) (ut ((4 * k) + 1)) (ut ((4 * k) + 2)) (ut ((4 * k) + 3)) (by omega)) (by decide) rfl rfl (Nat.le_of_ble_eq_true rfl) ⟨Nat.zero_le _, Nat.zero_le _⟩ (fun u13 w14 => ?_)
            refine v_iinc (lv' := [(1, .int (nI (k + 1))), (0, .ref (ad 0))]) F (nI (k + 1)) dX8_addAll_101 rfl (nI_add k 1) (by decide) rfl ?_
            refine v_goto F 51 dX8_addAll_104 (by decide) ?_
            refine v_w (w' := wM ad G (snp (cm ut T n (k + 1)) (n + (k + 1)) mo) (pSave S h T n mo, pSaveH h) (co, 0) (0) (ui, uf, uv, ut, un_) Ks Lo Wi) (congrArg (fun z_ => wM ad G z_ (pSave S h T n mo, pSaveH h) (co, 0) (0) (ui, uf, uv, ut, un_) Ks Lo Wi) (show (snp (pAdd ((cm ut T n k)) ((n + k)) ((ut (4 * k))) ((ut ((4 * k) + 1))) ((ut ((4 * k) + 2))) ((ut ((4 * k) + 3)))) (((n + k)) + 1) mo) = (snp (cm ut T n (k + 1)) (n + (k + 1)) mo) by rfl)) ?_
            refine v_st (w' := wM ad G (snp (cm ut T n (k + 1)) (n + (k + 1)) mo) (pSave S h T n mo, pSaveH h) (co, 0) (0) (ui, uf, uv, ut, un_) Ks Lo Wi) (pc' := 51) (st' := []) rfl rfl rfl [0, 1] (lv' := [(1, .int (nI (k + 1))), (0, .ref (ad 0))]) rfl ?_
            exact ih51 (k + 1) (by omega) (by omega)
      refine v_w (w' := wM ad G (snp (cm ut T n 0) (n + 0) mo) (pSave S h T n mo, pSaveH h) (co, 0) (0) (ui, uf, uv, ut, un_) Ks Lo Wi) (congrArg (fun z_ => wM ad G z_ (pSave S h T n mo, pSaveH h) (co, 0) (0) (ui, uf, uv, ut, un_) Ks Lo Wi) (show (snp T n mo) = (snp (cm ut T n 0) (n + 0) mo) by rfl)) ?_
      refine v_st (w' := wM ad G (snp (cm ut T n 0) (n + 0) mo) (pSave S h T n mo, pSaveH h) (co, 0) (0) (ui, uf, uv, ut, un_) Ks Lo Wi) (pc' := 51) (st' := []) rfl rfl rfl [0, 1] (lv' := [(1, .int (nI 0)), (0, .ref (ad 0))]) rfl ?_
      exact L51 _ 0 (Nat.lt_succ_self _) (by omega)
    · replace c7 := nKn (a := (n + un_)) (b := 20) (by omega) (by decide) c7
      have hxa : xAll n dd co len = 2 := by rw [xAll, if_neg (by rw [← hT1]; decide), if_pos (by omega)]
      refine v_aload_n F dX8_addAll_34 0 rfl rfl ?_
      refine v_iconst (v := nI 2) F dX8_addAll_35 (by decide) ?_
      refine v_cVIF F cs_RX8_46 dX8_addAll_36 0 (ci := 8) rfl rfl (m_X8_fails lau G ad (snp T n mo) (S, h) (co, len) (0) (ui, uf, uv, ut, un_) Ks Lo Wi 2 ) (by decide) rfl rfl (Nat.le_of_ble_eq_true rfl) ⟨Nat.zero_le _, Nat.zero_le _⟩ (fun r15 u16 w17 => ?_)
      subst w17
      refine v_w (w' := wM ad G (snp T n mo) (S, h) (co, len) (xAll n dd co len) (ui, uf, uv, ut, un_) Ks Lo Wi) (congrArg (fun z_ => wM ad G (snp T n mo) (S, h) (co, len) z_ (ui, uf, uv, ut, un_) Ks Lo Wi) (show 2 = (xAll n dd co len) by simp [if_true, *])) ?_
      exact v_iret F hr hlk hQ dX8_addAll_39 (((snp T n mo), (S, h), (co, len), (ui, uf, uv, ut, un_), Ks, Lo, Wi)) rfl (by first | (refine ⟨fun q => absurd q ?_, fun _ => ⟨rfl, rfl, rfl⟩⟩; simp [if_true, *]; done) | (refine ⟨fun _ => ⟨?_, ?_, ?_, ?_⟩, fun q => absurd ?_ q⟩; (rw [hT3a]); (rw [hT3c, hT3a]); (rfl); (rfl); simp [if_true, *]; done))
