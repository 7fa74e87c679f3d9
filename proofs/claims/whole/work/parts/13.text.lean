set_option maxHeartbeats 4000000 in
set_option maxRecDepth 100000 in
theorem m_X0_size (lau : Launch) (G : GT) (ad : Nat → Nat) (L : LT) (S : Nat → Int32) (h : Nat) (P : PT) (Tr : TT) (Rg : RT) (Tx : XT) (Rd : DT) : MI lau G 0 yX0_size cX0_size 1 (some .int) [.ref (ad 2)] (wC ad G L (S, h) P Tr Rg Tx Rd) (fun u : Unit => wC ad G L (S, h) P Tr Rg Tx Rd) (fun r u => r = nI h) := by
  refine mi_of (by decide +kernel) (Nat.le_of_ble_eq_true rfl) ?_
  intro p e s m args below meth c A Q F hr hlk hQ
  refine v_st (w' := wC ad G L (S, h) P Tr Rg Tx Rd) (pc' := 0) (st' := []) rfl rfl rfl [0] (lv' := [(0, .ref (ad 2))]) rfl ?_
  refine v_aload_n F dX0_size_0 0 rfl rfl ?_
  refine v_get (v := .int (nI h)) F inlX0 (ci := 0) rfl 1 (by decide) rfl wF_RX0_17 dX0_size_1 2 rfl rfl ?_
  exact v_iret F hr hlk hQ dX0_size_4 (()) rfl (by first | rfl | (simp; done))
theorem cs_RX0_27 : CSV RX0 27 RX1 yX1_saveTo cX1_saveTo 3 none 2 := ⟨wC_yX1_saveTo, wM_RX0_27, wIm_yX1_saveTo, wSe_yX1_saveTo, wI_RX1, by decide +kernel, by decide⟩
set_option maxHeartbeats 4000000 in
set_option maxRecDepth 100000 in
theorem m_X0_save (lau : Launch) (G : GT) (ad : Nat → Nat) (T : Nat → Int32) (n mo ver : Nat) (S : Nat → Int32) (h : Nat) (P : PT) (Tr : TT) (Rg : RT) (Tx : XT) (Rd : DT) (hh : h ≤ 6) : MV lau G 3 yX0_save cX0_save 2 none [.ref (ad 2), .ref (ad 1)] (wC ad G (T, n, mo, ver) (S, h) P Tr Rg Tx Rd) (fun u : Unit => wC ad G (T, n, mo, ver) (pSave S h T n mo, pSaveH h) P Tr Rg Tx Rd) (fun u => True) := by
  refine mv_of (by decide +kernel) (Nat.le_of_ble_eq_true rfl) ?_
  intro p e s m args below meth c A Q F hr hlk hQ
  refine v_st (w' := wC ad G (T, n, mo, ver) (S, h) P Tr Rg Tx Rd) (pc' := 0) (st' := []) rfl rfl rfl [0, 1] (lv' := [(0, .ref (ad 2)), (1, .ref (ad 1))]) rfl ?_
  refine v_aload_n F dX0_save_0 0 rfl rfl ?_
  refine v_get (v := .int (nI h)) F inlX0 (ci := 0) rfl 1 (by decide) rfl wF_RX0_17 dX0_save_1 2 rfl rfl ?_
  refine v_bipush (v := nI 6) F dX0_save_4 (by decide) ?_
  refine v_icmp_lt F 36 dX0_save_6 (by decide) (fun c1 => ?_) (fun c1 => ?_)
  · replace c1 := nL (a := h) (b := 6) (by omega) (by decide) c1
    refine v_aload_n F dX0_save_36 1 rfl rfl ?_
    refine v_aload_n F dX0_save_37 0 rfl rfl ?_
    refine v_get (v := .ref (ad 9)) F inlX0 (ci := 0) rfl 0 (by decide) rfl wF_RX0_11 dX0_save_38 2 rfl rfl ?_
    refine v_aload_n F dX0_save_41 0 rfl rfl ?_
    refine v_get (v := .int (nI h)) F inlX0 (ci := 0) rfl 1 (by decide) rfl wF_RX0_17 dX0_save_42 2 rfl rfl ?_
    refine v_bipush (v := nI 122) F dX0_save_45 (by decide) ?_
    refine v_imul F dX0_save_47 ?_
    refine v_topi (nI (h * 122)) (pk_mul h 122) ?_
    refine v_cVVF F cs_RX0_27 dX0_save_48 1 (ci := 1) rfl rfl (m_X1_saveTo lau G ad T n mo ver S h P Tr Rg Tx Rd (h * 122) (by omega)) (by decide) rfl rfl (Nat.le_of_ble_eq_true rfl) ⟨Nat.zero_le _, Nat.zero_le _⟩ (fun u3 w4 => ?_)
    refine v_aload_n F dX0_save_51 0 rfl rfl ?_
    refine v_dup F dX0_save_52 rfl ?_
    refine v_get (v := .int (nI h)) F inlX0 (ci := 0) rfl 1 (by decide) rfl wF_RX0_17 dX0_save_53 2 rfl rfl ?_
    refine v_iconst (v := nI 1) F dX0_save_56 (by decide) ?_
    refine v_iadd F dX0_save_57 ?_
    refine v_topi (nI (h + 1)) (nI_add h 1) ?_
    refine v_put F inlX0 (ci := 0) rfl tyX0 tyX0_ok nmX0 1 (by decide) rfl rfl wF_RX0_17 dX0_save_58 (ty := .int) (by decide +kernel) rfl rfl 2 rfl (Nat.le_of_ble_eq_true rfl) (wC ad G (T, n, mo, ver) (va_cpy T (upd (upd S (h * 122) (nI mo)) ((h * 122) + 1) (nI n)) 0 ((h * 122) + 2) 120, h + 1) P Tr Rg Tx Rd) rfl ?_
    refine v_w (w' := wC ad G (T, n, mo, ver) (pSave S h T n mo, pSaveH h) P Tr Rg Tx Rd) (congrArg (fun z_ => wC ad G (T, n, mo, ver) z_ P Tr Rg Tx Rd) (show (va_cpy T (upd (upd S (h * 122) (nI mo)) ((h * 122) + 1) (nI n)) 0 ((h * 122) + 2) 120, h + 1) = (pSave S h T n mo, pSaveH h) by simp [pSave, pSaveH, pPut, *])) ?_
    exact v_vret F hr hlk hQ dX0_save_61 (()) rfl (by trivial)
  · replace c1 := nLn (a := h) (b := 6) (by omega) (by decide) c1
    have hh6 : ¬ h < 6 := Nat.not_lt.mpr c1
    refine v_aload_n F dX0_save_9 0 rfl rfl ?_
    refine v_get (v := .ref (ad 9)) F inlX0 (ci := 0) rfl 0 (by decide) rfl wF_RX0_11 dX0_save_10 2 rfl rfl ?_
    refine v_bipush (v := nI 122) F dX0_save_13 (by decide) ?_
    refine v_aload_n F dX0_save_15 0 rfl rfl ?_
    refine v_get (v := .ref (ad 9)) F inlX0 (ci := 0) rfl 0 (by decide) rfl wF_RX0_11 dX0_save_16 2 rfl rfl ?_
    refine v_iconst (v := nI 0) F dX0_save_19 (by decide) ?_
    refine v_aload_n F dX0_save_20 0 rfl rfl ?_
    refine v_get (v := .ref (ad 9)) F inlX0 (ci := 0) rfl 0 (by decide) rfl wF_RX0_11 dX0_save_21 2 rfl rfl ?_
    refine v_alen F dX0_save_24 9 rfl ?_
    refine v_bipush (v := nI 122) F dX0_save_25 (by decide) ?_
    refine v_isub F dX0_save_27 ?_
    refine v_topi (nI 610) (by decide) ?_
    refine v_copyN F wM_RX0_21 wNa_arraycopyName wSt_arraycopyName wI_RJ10 dX0_save_28 9 9 rfl rfl 122 0 610 rfl rfl rfl (by omega) (by omega) (by decide) (by decide) (by have := F.2.2.2.2.2.2.2.1; simp at this ⊢) (by have := F.2.2.2.2.2.2.2.2; simp [nativeFrameWords, Value.category] at this ⊢) (wC ad G (T, n, mo, ver) (va_cpy S S 122 0 610, h) P Tr Rg Tx Rd) rfl ?_
    refine v_aload_n F dX0_save_31 0 rfl rfl ?_
    refine v_iconst (v := nI 5) F dX0_save_32 (by decide) ?_
    refine v_put F inlX0 (ci := 0) rfl tyX0 tyX0_ok nmX0 1 (by decide) rfl rfl wF_RX0_17 dX0_save_33 (ty := .int) (by decide +kernel) rfl rfl 2 rfl (Nat.le_of_ble_eq_true rfl) (wC ad G (T, n, mo, ver) (va_cpy S S 122 0 610, 5) P Tr Rg Tx Rd) rfl ?_
    refine v_aload_n F dX0_save_36 1 rfl rfl ?_
    refine v_aload_n F dX0_save_37 0 rfl rfl ?_
    refine v_get (v := .ref (ad 9)) F inlX0 (ci := 0) rfl 0 (by decide) rfl wF_RX0_11 dX0_save_38 2 rfl rfl ?_
    refine v_aload_n F dX0_save_41 0 rfl rfl ?_
    refine v_get (v := .int (nI 5)) F inlX0 (ci := 0) rfl 1 (by decide) rfl wF_RX0_17 dX0_save_42 2 rfl rfl ?_
    refine v_bipush (v := nI 122) F dX0_save_45 (by decide) ?_
    refine v_imul F dX0_save_47 ?_
    refine v_topi (nI 610) (pk_mul 5 122) ?_
    refine v_cVVF F cs_RX0_27 dX0_save_48 1 (ci := 1) rfl rfl (m_X1_saveTo lau G ad T n mo ver (va_cpy S S 122 0 610) 5 P Tr Rg Tx Rd 610 (by omega)) (by decide) rfl rfl (Nat.le_of_ble_eq_true rfl) ⟨Nat.zero_le _, Nat.zero_le _⟩ (fun u6 w7 => ?_)
    refine v_aload_n F dX0_save_51 0 rfl rfl ?_
    refine v_dup F dX0_save_52 rfl ?_
    refine v_get (v := .int (nI 5)) F inlX0 (ci := 0) rfl 1 (by decide) rfl wF_RX0_17 dX0_save_53 2 rfl rfl ?_
    refine v_iconst (v := nI 1) F dX0_save_56 (by decide) ?_
    refine v_iadd F dX0_save_57 ?_
    refine v_topi (nI 6) (nI_add 5 1) ?_
    refine v_put F inlX0 (ci := 0) rfl tyX0 tyX0_ok nmX0 1 (by decide) rfl rfl wF_RX0_17 dX0_save_58 (ty := .int) (by decide +kernel) rfl rfl 2 rfl (Nat.le_of_ble_eq_true rfl) (wC ad G (T, n, mo, ver) (va_cpy T (upd (upd (va_cpy S S 122 0 610) 610 (nI mo)) (610 + 1) (nI n)) 0 (610 + 2) 120, 6) P Tr Rg Tx Rd) rfl ?_
    refine v_w (w' := wC ad G (T, n, mo, ver) (pSave S h T n mo, pSaveH h) P Tr Rg Tx Rd) (congrArg (fun z_ => wC ad G (T, n, mo, ver) z_ P Tr Rg Tx Rd) (show (va_cpy T (upd (upd (va_cpy S S 122 0 610) 610 (nI mo)) (610 + 1) (nI n)) 0 (610 + 2) 120, 6) = (pSave S h T n mo, pSaveH h) by simp [pSave, pSaveH, pPut, *])) ?_
    exact v_vret F hr hlk hQ dX0_save_61 (()) rfl (by trivial)
theorem cs_RX0_31 : CSV RX0 31 RX1 yX1_restoreFrom cX1_restoreFrom 3 none 2 := ⟨wC_yX1_restoreFrom, wM_RX0_31, wIm_yX1_restoreFrom, wSe_yX1_restoreFrom, wI_RX1, by decide +kernel, by decide⟩
set_option maxHeartbeats 4000000 in
set_option maxRecDepth 100000 in
theorem m_X0_restore (lau : Launch) (G : GT) (ad : Nat → Nat) (T : Nat → Int32) (n mo ver : Nat) (S : Nat → Int32) (h : Nat) (P : PT) (Tr : TT) (Rg : RT) (Tx : XT) (Rd : DT) (n' mo' : Nat) (h0 : 0 < h) (hh : h ≤ 6) (hn' : S ((h - 1) * 122 + 1) = nI n') (hmo' : S ((h - 1) * 122) = nI mo') : MV lau G 3 yX0_restore cX0_restore 2 none [.ref (ad 2), .ref (ad 1)] (wC ad G (T, n, mo, ver) (S, h) P Tr Rg Tx Rd) (fun u : Unit => wC ad G (va_cpy S T ((h - 1) * 122 + 2) 0 120, n', mo', ver + 1) (S, h - 1) P Tr Rg Tx Rd) (fun u => True) := by
  refine mv_of (by decide +kernel) (Nat.le_of_ble_eq_true rfl) ?_
  intro p e s m args below meth c A Q F hr hlk hQ
  refine v_st (w' := wC ad G (T, n, mo, ver) (S, h) P Tr Rg Tx Rd) (pc' := 0) (st' := []) rfl rfl rfl [0, 1] (lv' := [(0, .ref (ad 2)), (1, .ref (ad 1))]) rfl ?_
  refine v_aload_n F dX0_restore_0 0 rfl rfl ?_
  refine v_get (v := .int (nI h)) F inlX0 (ci := 0) rfl 1 (by decide) rfl wF_RX0_17 dX0_restore_1 2 rfl rfl ?_
  refine v_if_le F 32 dX0_restore_4 (by decide) (fun c1 => ?_) (fun c1 => ?_)
  · replace c1 := nK (a := h) (b := 0) (by omega) (by decide) c1
    omega
  · replace c1 := nKn (a := h) (b := 0) (by omega) (by decide) c1
    refine v_aload_n F dX0_restore_7 0 rfl rfl ?_
    refine v_dup F dX0_restore_8 rfl ?_
    refine v_get (v := .int (nI h)) F inlX0 (ci := 0) rfl 1 (by decide) rfl wF_RX0_17 dX0_restore_9 2 rfl rfl ?_
    refine v_iconst (v := nI 1) F dX0_restore_12 (by decide) ?_
    refine v_isub F dX0_restore_13 ?_
    refine v_topi (nI (h - 1)) (pk_sub (by omega)) ?_
    refine v_put F inlX0 (ci := 0) rfl tyX0 tyX0_ok nmX0 1 (by decide) rfl rfl wF_RX0_17 dX0_restore_14 (ty := .int) (by decide +kernel) rfl rfl 2 rfl (Nat.le_of_ble_eq_true rfl) (wC ad G (T, n, mo, ver) (S, h - 1) P Tr Rg Tx Rd) rfl ?_
    refine v_aload_n F dX0_restore_17 1 rfl rfl ?_
    refine v_aload_n F dX0_restore_18 0 rfl rfl ?_
    refine v_get (v := .ref (ad 9)) F inlX0 (ci := 0) rfl 0 (by decide) rfl wF_RX0_11 dX0_restore_19 2 rfl rfl ?_
    refine v_aload_n F dX0_restore_22 0 rfl rfl ?_
    refine v_get (v := .int (nI (h - 1))) F inlX0 (ci := 0) rfl 1 (by decide) rfl wF_RX0_17 dX0_restore_23 2 rfl rfl ?_
    refine v_bipush (v := nI 122) F dX0_restore_26 (by decide) ?_
    refine v_imul F dX0_restore_28 ?_
    refine v_topi (nI ((h - 1) * 122)) (pk_mul (h - 1) 122) ?_
    refine v_cVVF F cs_RX0_31 dX0_restore_29 1 (ci := 1) rfl rfl (m_X1_restoreFrom lau G ad T n mo ver S (h - 1) P Tr Rg Tx Rd ((h - 1) * 122) n' mo' (by omega) hn' hmo') (by decide) rfl rfl (Nat.le_of_ble_eq_true rfl) ⟨Nat.zero_le _, Nat.zero_le _⟩ (fun u3 w4 => ?_)
    refine v_w (w' := wC ad G (va_cpy S T ((h - 1) * 122 + 2) 0 120, n', mo', ver + 1) (S, h - 1) P Tr Rg Tx Rd) (congrArg (fun z_ => wC ad G z_ (S, h - 1) P Tr Rg Tx Rd) (show (va_cpy S T (((h - 1) * 122) + 2) 0 120, n', mo', ver + 1) = (va_cpy S T ((h - 1) * 122 + 2) 0 120, n', mo', ver + 1) by rfl)) ?_
    exact v_vret F hr hlk hQ dX0_restore_32 (()) rfl (by trivial)
set_option maxHeartbeats 4000000 in
set_option maxRecDepth 100000 in
theorem m_X3_start (lau : Launch) (G : GT) (ad : Nat → Nat) (L : LT) (Hs : HT) (P : PT) (Tr : TT) (Rg : RT) (Tx : XT) (d : DT) : MV lau G 0 yX3_start cX3_start 1 none [.ref (ad 7)] (wC ad G L Hs P Tr Rg Tx d) (fun u : Unit => wC ad G L Hs P Tr Rg Tx (rStart d)) (fun u => True) := by
  refine mv_of (by decide +kernel) (Nat.le_of_ble_eq_true rfl) ?_
  intro p e s m args below meth c A Q F hr hlk hQ
  refine v_st (w' := wC ad G L Hs P Tr Rg Tx d) (pc' := 0) (st' := []) rfl rfl rfl [0] (lv' := [(0, .ref (ad 7))]) rfl ?_
  refine v_aload_n F dX3_start_0 0 rfl rfl ?_
  refine v_iconst (v := nI 0) F dX3_start_1 (by decide) ?_
  refine v_put F inlX3 (ci := 3) rfl tyX3 tyX3_ok nmX3 0 (by decide) rfl rfl wF_RX3_11 dX3_start_2 (ty := .int) (by decide +kernel) rfl rfl 7 rfl (Nat.le_of_ble_eq_true rfl) (wC ad G L Hs P Tr Rg Tx (0, d.2.1, d.2.2.1, d.2.2.2.1, d.2.2.2.2.1, d.2.2.2.2.2)) rfl ?_
  refine v_aload_n F dX3_start_5 0 rfl rfl ?_
  refine v_iconst (v := nI 0) F dX3_start_6 (by decide) ?_
  refine v_put F inlX3 (ci := 3) rfl tyX3 tyX3_ok nmX3 2 (by decide) rfl rfl wF_RX3_18 dX3_start_7 (ty := .boolean) (by decide +kernel) (nar_b false) (fit_b false) 7 rfl (Nat.le_of_ble_eq_true rfl) (wC ad G L Hs P Tr Rg Tx (0, d.2.1, false, d.2.2.2.1, d.2.2.2.2.1, d.2.2.2.2.2)) rfl ?_
  refine v_w (w' := wC ad G L Hs P Tr Rg Tx (rStart d)) (congrArg (fun z_ => wC ad G L Hs P Tr Rg Tx z_) (show (0, d.2.1, false, d.2.2.2.1, d.2.2.2.2.1, d.2.2.2.2.2) = (rStart d) by rfl)) ?_
  exact v_vret F hr hlk hQ dX3_start_10 (()) rfl (by trivial)
set_option maxHeartbeats 4000000 in
set_option maxRecDepth 100000 in
theorem m_X3_hasWholeLine (lau : Launch) (G : GT) (ad : Nat → Nat) (L : LT) (Hs : HT) (P : PT) (Tr : TT) (Rg : RT) (Tx : XT) (d : DT) (h1 : d.1 ≤ 9) (h2 : d.2.1 ≤ 9999) (h3 : d.2.2.2.2.2 ≤ 9999) : MI lau G 0 yX3_hasWholeLine cX3_hasWholeLine 1 (some .boolean) [.ref (ad 7)] (wC ad G L Hs P Tr Rg Tx d) (fun u : Unit => wC ad G L Hs P Tr Rg Tx d) (fun r u => r = bI (rWhole d)) := by
  refine mi_of (by decide +kernel) (Nat.le_of_ble_eq_true rfl) ?_
  intro p e s m args below meth c A Q F hr hlk hQ
  refine v_st (w' := wC ad G L Hs P Tr Rg Tx d) (pc' := 0) (st' := []) rfl rfl rfl [0] (lv' := [(0, .ref (ad 7))]) rfl ?_
  refine v_aload_n F dX3_hasWholeLine_0 0 rfl rfl ?_
  refine v_get (v := .int (nI d.1)) F inlX3 (ci := 3) rfl 0 (by decide) rfl wF_RX3_11 dX3_hasWholeLine_1 7 rfl rfl ?_
  refine v_iconst (v := nI 5) F dX3_hasWholeLine_4 (by decide) ?_
  refine v_icmp_eq F 28 dX3_hasWholeLine_5 (by decide) (fun c1 => ?_) (fun c1 => ?_)
  · replace c1 := nE (a := d.1) (b := 5) (by omega) (by decide) c1
    refine v_iconst (v := nI 1) F dX3_hasWholeLine_28 (by decide) ?_
    refine v_goto F 33 dX3_hasWholeLine_29 (by decide) ?_
    exact v_zret F hr hlk hQ rfl dX3_hasWholeLine_33 (()) rfl (by simp [rWhole, bI, nI_one, nI_0]; omega)
  · replace c1 := nEn (a := d.1) (b := 5) (by omega) (by decide) c1
    refine v_aload_n F dX3_hasWholeLine_8 0 rfl rfl ?_
    refine v_get (v := .int (nI d.1)) F inlX3 (ci := 3) rfl 0 (by decide) rfl wF_RX3_11 dX3_hasWholeLine_9 7 rfl rfl ?_
    refine v_bipush (v := nI 9) F dX3_hasWholeLine_12 (by decide) ?_
    refine v_icmp_ne F 32 dX3_hasWholeLine_14 (by decide) (fun c2 => ?_) (fun c2 => ?_)
    · replace c2 := nEn (a := d.1) (b := 9) (by omega) (by decide) c2
      refine v_iconst (v := nI 0) F dX3_hasWholeLine_32 (by decide) ?_
      exact v_zret F hr hlk hQ rfl dX3_hasWholeLine_33 (()) rfl (by simp [rWhole, bI, nI_one, nI_0]; omega)
    · replace c2 := nE (a := d.1) (b := 9) (by omega) (by decide) c2
      refine v_aload_n F dX3_hasWholeLine_17 0 rfl rfl ?_
      refine v_get (v := .int (nI d.2.1)) F inlX3 (ci := 3) rfl 1 (by decide) rfl wF_RX3_15 dX3_hasWholeLine_18 7 rfl rfl ?_
      refine v_aload_n F dX3_hasWholeLine_21 0 rfl rfl ?_
      refine v_get (v := .int (nI d.2.2.2.2.2)) F inlX3 (ci := 3) rfl 5 (by decide) rfl wF_RX3_28 dX3_hasWholeLine_22 7 rfl rfl ?_
      refine v_icmp_lt F 32 dX3_hasWholeLine_25 (by decide) (fun c3 => ?_) (fun c3 => ?_)
      · replace c3 := nL (a := d.2.1) (b := d.2.2.2.2.2) (by omega) (by omega) c3
        refine v_iconst (v := nI 0) F dX3_hasWholeLine_32 (by decide) ?_
        exact v_zret F hr hlk hQ rfl dX3_hasWholeLine_33 (()) rfl (by simp [rWhole, bI, nI_one, nI_0]; omega)
      · replace c3 := nLn (a := d.2.1) (b := d.2.2.2.2.2) (by omega) (by omega) c3
        refine v_iconst (v := nI 1) F dX3_hasWholeLine_28 (by decide) ?_
        refine v_goto F 33 dX3_hasWholeLine_29 (by decide) ?_
        exact v_zret F hr hlk hQ rfl dX3_hasWholeLine_33 (()) rfl (by simp [rWhole, bI, nI_one, nI_0]; omega)
set_option maxHeartbeats 4000000 in
set_option maxRecDepth 100000 in
theorem m_X3_entered (lau : Launch) (G : GT) (ad : Nat → Nat) (L : LT) (Hs : HT) (P : PT) (Tr : TT) (Rg : RT) (Tx : XT) (d : DT) (k : Nat) : MI lau G 0 yX3_entered cX3_entered 2 (some .boolean) [.ref (ad 7), .int (nI k)] (wC ad G L Hs P Tr Rg Tx d) (fun u : Unit => wC ad G L Hs P Tr Rg Tx (k, d.2)) (fun r u => r = bI true) := by
  refine mi_of (by decide +kernel) (Nat.le_of_ble_eq_true rfl) ?_
  intro p e s m args below meth c A Q F hr hlk hQ
  refine v_st (w' := wC ad G L Hs P Tr Rg Tx d) (pc' := 0) (st' := []) rfl rfl rfl [0, 1] (lv' := [(0, .ref (ad 7)), (1, .int (nI k))]) rfl ?_
  refine v_aload_n F dX3_entered_0 0 rfl rfl ?_
  refine v_iload_n F dX3_entered_1 1 rfl rfl ?_
  refine v_put F inlX3 (ci := 3) rfl tyX3 tyX3_ok nmX3 0 (by decide) rfl rfl wF_RX3_11 dX3_entered_2 (ty := .int) (by decide +kernel) rfl rfl 7 rfl (Nat.le_of_ble_eq_true rfl) (wC ad G L Hs P Tr Rg Tx (k, d.2.1, d.2.2.1, d.2.2.2.1, d.2.2.2.2.1, d.2.2.2.2.2)) rfl ?_
  refine v_iconst (v := nI 1) F dX3_entered_5 (by decide) ?_
  refine v_w (w' := wC ad G L Hs P Tr Rg Tx (k, d.2)) (congrArg (fun z_ => wC ad G L Hs P Tr Rg Tx z_) (show (k, d.2.1, d.2.2.1, d.2.2.2.1, d.2.2.2.2.1, d.2.2.2.2.2) = (k, d.2) by rfl)) ?_
  exact v_zret F hr hlk hQ rfl dX3_entered_6 (()) rfl (by first | rfl | (simp; done))
theorem cs_RX3_71 : CSV RX3 71 RX3 yX3_entered cX3_entered 2 (some .boolean) 1 := ⟨wC_yX3_entered, wM_RX3_71, wIm_yX3_entered, wSe_yX3_entered, wI_RX3, by decide +kernel, by decide⟩
set_option maxHeartbeats 4000000 in
set_option maxRecDepth 100000 in
theorem m_X3_goesNegative (lau : Launch) (G : GT) (ad : Nat → Nat) (L : LT) (Hs : HT) (P : PT) (Tr : TT) (Rg : RT) (Tx : XT) (d : DT) (k : Nat) : MI lau G 1 yX3_goesNegative cX3_goesNegative 2 (some .boolean) [.ref (ad 7), .int (nI k)] (wC ad G L Hs P Tr Rg Tx d) (fun u : Unit => wC ad G L Hs P Tr Rg Tx (rNeg d k)) (fun r u => r = bI true) := by
  refine mi_of (by decide +kernel) (Nat.le_of_ble_eq_true rfl) ?_
  intro p e s m args below meth c A Q F hr hlk hQ
  refine v_st (w' := wC ad G L Hs P Tr Rg Tx d) (pc' := 0) (st' := []) rfl rfl rfl [0, 1] (lv' := [(0, .ref (ad 7)), (1, .int (nI k))]) rfl ?_
  refine v_aload_n F dX3_goesNegative_0 0 rfl rfl ?_
  refine v_iconst (v := nI 1) F dX3_goesNegative_1 (by decide) ?_
  refine v_put F inlX3 (ci := 3) rfl tyX3 tyX3_ok nmX3 2 (by decide) rfl rfl wF_RX3_18 dX3_goesNegative_2 (ty := .boolean) (by decide +kernel) (nar_b true) (fit_b true) 7 rfl (Nat.le_of_ble_eq_true rfl) (wC ad G L Hs P Tr Rg Tx (d.1, d.2.1, true, d.2.2.2.1, d.2.2.2.2.1, d.2.2.2.2.2)) rfl ?_
  refine v_aload_n F dX3_goesNegative_5 0 rfl rfl ?_
  refine v_iload_n F dX3_goesNegative_6 1 rfl rfl ?_
  refine v_cVIF F cs_RX3_71 dX3_goesNegative_7 7 (ci := 3) rfl rfl (m_X3_entered lau G ad L Hs P Tr Rg Tx (d.1, d.2.1, true, d.2.2.2.1, d.2.2.2.2.1, d.2.2.2.2.2) k ) (by decide) rfl rfl (Nat.le_of_ble_eq_true rfl) ⟨Nat.zero_le _, Nat.zero_le _⟩ (fun r1 u2 w3 => ?_)
  subst w3
  refine v_w (w' := wC ad G L Hs P Tr Rg Tx (rNeg d k)) (congrArg (fun z_ => wC ad G L Hs P Tr Rg Tx z_) (show (k, ((d.1, d.2.1, true, d.2.2.2.1, d.2.2.2.2.1, d.2.2.2.2.2)).2) = (rNeg d k) by rfl)) ?_
  exact v_zret F hr hlk hQ (nar_b true) dX3_goesNegative_10 (()) rfl (by first | rfl | (simp; done))
set_option maxHeartbeats 4000000 in
set_option maxRecDepth 100000 in
theorem m_X3_signedNumber (lau : Launch) (G : GT) (ad : Nat → Nat) (L : LT) (Hs : HT) (P : PT) (Tr : TT) (Rg : RT) (Tx : XT) (d : DT) : MI lau G 0 yX3_signedNumber cX3_signedNumber 1 (some .int) [.ref (ad 7)] (wC ad G L Hs P Tr Rg Tx d) (fun u : Unit => wC ad G L Hs P Tr Rg Tx d) (fun r u => r = (rSigned d)) := by
  refine mi_of (by decide +kernel) (Nat.le_of_ble_eq_true rfl) ?_
  intro p e s m args below meth c A Q F hr hlk hQ
  refine v_st (w' := wC ad G L Hs P Tr Rg Tx d) (pc' := 0) (st' := []) rfl rfl rfl [0] (lv' := [(0, .ref (ad 7))]) rfl ?_
  refine v_aload_n F dX3_signedNumber_0 0 rfl rfl ?_
  refine v_get (v := .int (bI d.2.2.1)) F inlX3 (ci := 3) rfl 2 (by decide) rfl wF_RX3_18 dX3_signedNumber_1 7 rfl rfl ?_
  refine v_if_eq F 15 dX3_signedNumber_4 (by decide) (fun c1 => ?_) (fun c1 => ?_)
  · replace c1 := bI_f c1
    refine v_aload_n F dX3_signedNumber_15 0 rfl rfl ?_
    refine v_get (v := .int (nI d.2.1)) F inlX3 (ci := 3) rfl 1 (by decide) rfl wF_RX3_15 dX3_signedNumber_16 7 rfl rfl ?_
    exact v_iret F hr hlk hQ dX3_signedNumber_19 (()) rfl (by simp [rSigned, *])
  · replace c1 := bI_t c1
    refine v_aload_n F dX3_signedNumber_7 0 rfl rfl ?_
    refine v_get (v := .int (nI d.2.1)) F inlX3 (ci := 3) rfl 1 (by decide) rfl wF_RX3_15 dX3_signedNumber_8 7 rfl rfl ?_
    refine v_ineg F dX3_signedNumber_11 ?_
    refine v_goto F 19 dX3_signedNumber_12 (by decide) ?_
    exact v_iret F hr hlk hQ dX3_signedNumber_19 (()) rfl (by simp [rSigned, *])
theorem cs_RX3_31 : CSV RX3 31 RX3 yX3_signedNumber cX3_signedNumber 1 (some .int) 0 := ⟨wC_yX3_signedNumber, wM_RX3_31, wIm_yX3_signedNumber, wSe_yX3_signedNumber, wI_RX3, by decide +kernel, by decide⟩
set_option maxHeartbeats 4000000 in
set_option maxRecDepth 100000 in
theorem m_X3_endsSlope (lau : Launch) (G : GT) (ad : Nat → Nat) (L : LT) (Hs : HT) (P : PT) (Tr : TT) (Rg : RT) (Tx : XT) (d : DT) : MI lau G 1 yX3_endsSlope cX3_endsSlope 1 (some .boolean) [.ref (ad 7)] (wC ad G L Hs P Tr Rg Tx d) (fun u : Unit => wC ad G L Hs P Tr Rg Tx (rEndsSlope d)) (fun r u => r = bI true) := by
  refine mi_of (by decide +kernel) (Nat.le_of_ble_eq_true rfl) ?_
  intro p e s m args below meth c A Q F hr hlk hQ
  refine v_st (w' := wC ad G L Hs P Tr Rg Tx d) (pc' := 0) (st' := []) rfl rfl rfl [0] (lv' := [(0, .ref (ad 7))]) rfl ?_
  refine v_aload_n F dX3_endsSlope_0 0 rfl rfl ?_
  refine v_aload_n F dX3_endsSlope_1 0 rfl rfl ?_
  refine v_cVIF F cs_RX3_31 dX3_endsSlope_2 7 (ci := 3) rfl rfl (m_X3_signedNumber lau G ad L Hs P Tr Rg Tx d ) (by decide) rfl rfl (Nat.le_of_ble_eq_true rfl) ⟨Nat.zero_le _, Nat.zero_le _⟩ (fun r1 u2 w3 => ?_)
  subst w3
  refine v_put F inlX3 (ci := 3) rfl tyX3 tyX3_ok nmX3 3 (by decide) rfl rfl wF_RX3_22 dX3_endsSlope_5 (ty := .int) (by decide +kernel) rfl rfl 7 rfl (Nat.le_of_ble_eq_true rfl) (wC ad G L Hs P Tr Rg Tx (d.1, d.2.1, d.2.2.1, (rSigned d), d.2.2.2.2.1, d.2.2.2.2.2)) rfl ?_
  refine v_aload_n F dX3_endsSlope_8 0 rfl rfl ?_
  refine v_iconst (v := nI 0) F dX3_endsSlope_9 (by decide) ?_
  refine v_put F inlX3 (ci := 3) rfl tyX3 tyX3_ok nmX3 2 (by decide) rfl rfl wF_RX3_18 dX3_endsSlope_10 (ty := .boolean) (by decide +kernel) (nar_b false) (fit_b false) 7 rfl (Nat.le_of_ble_eq_true rfl) (wC ad G L Hs P Tr Rg Tx (d.1, d.2.1, false, (rSigned d), d.2.2.2.2.1, d.2.2.2.2.2)) rfl ?_
  refine v_aload_n F dX3_endsSlope_13 0 rfl rfl ?_
  refine v_iconst (v := nI 3) F dX3_endsSlope_14 (by decide) ?_
  refine v_cVIF F cs_RX3_71 dX3_endsSlope_15 7 (ci := 3) rfl rfl (m_X3_entered lau G ad L Hs P Tr Rg Tx (d.1, d.2.1, false, (rSigned d), d.2.2.2.2.1, d.2.2.2.2.2) 3 ) (by decide) rfl rfl (Nat.le_of_ble_eq_true rfl) ⟨Nat.zero_le _, Nat.zero_le _⟩ (fun r4 u5 w6 => ?_)
  subst w6
  refine v_w (w' := wC ad G L Hs P Tr Rg Tx (rEndsSlope d)) (congrArg (fun z_ => wC ad G L Hs P Tr Rg Tx z_) (show (3, ((d.1, d.2.1, false, (rSigned d), d.2.2.2.2.1, d.2.2.2.2.2)).2) = (rEndsSlope d) by rfl)) ?_
  exact v_zret F hr hlk hQ (nar_b true) dX3_endsSlope_18 (()) rfl (by first | rfl | (simp; done))
set_option maxHeartbeats 4000000 in
set_option maxRecDepth 100000 in
theorem m_X3_endsFirstMoment (lau : Launch) (G : GT) (ad : Nat → Nat) (L : LT) (Hs : HT) (P : PT) (Tr : TT) (Rg : RT) (Tx : XT) (d : DT) : MI lau G 1 yX3_endsFirstMoment cX3_endsFirstMoment 1 (some .boolean) [.ref (ad 7)] (wC ad G L Hs P Tr Rg Tx d) (fun u : Unit => wC ad G L Hs P Tr Rg Tx (rEndsFirst d)) (fun r u => r = bI true) := by
  refine mi_of (by decide +kernel) (Nat.le_of_ble_eq_true rfl) ?_
  intro p e s m args below meth c A Q F hr hlk hQ
  refine v_st (w' := wC ad G L Hs P Tr Rg Tx d) (pc' := 0) (st' := []) rfl rfl rfl [0] (lv' := [(0, .ref (ad 7))]) rfl ?_
  refine v_aload_n F dX3_endsFirstMoment_0 0 rfl rfl ?_
  refine v_aload_n F dX3_endsFirstMoment_1 0 rfl rfl ?_
  refine v_get (v := .int (nI d.2.1)) F inlX3 (ci := 3) rfl 1 (by decide) rfl wF_RX3_15 dX3_endsFirstMoment_2 7 rfl rfl ?_
  refine v_put F inlX3 (ci := 3) rfl tyX3 tyX3_ok nmX3 5 (by decide) rfl rfl wF_RX3_28 dX3_endsFirstMoment_5 (ty := .int) (by decide +kernel) rfl rfl 7 rfl (Nat.le_of_ble_eq_true rfl) (wC ad G L Hs P Tr Rg Tx (d.1, d.2.1, d.2.2.1, d.2.2.2.1, d.2.2.2.2.1, d.2.1)) rfl ?_
  refine v_aload_n F dX3_endsFirstMoment_8 0 rfl rfl ?_
  refine v_bipush (v := nI 8) F dX3_endsFirstMoment_9 (by decide) ?_
  refine v_cVIF F cs_RX3_71 dX3_endsFirstMoment_11 7 (ci := 3) rfl rfl (m_X3_entered lau G ad L Hs P Tr Rg Tx (d.1, d.2.1, d.2.2.1, d.2.2.2.1, d.2.2.2.2.1, d.2.1) 8 ) (by decide) rfl rfl (Nat.le_of_ble_eq_true rfl) ⟨Nat.zero_le _, Nat.zero_le _⟩ (fun r1 u2 w3 => ?_)
  subst w3
  refine v_w (w' := wC ad G L Hs P Tr Rg Tx (rEndsFirst d)) (congrArg (fun z_ => wC ad G L Hs P Tr Rg Tx z_) (show (8, ((d.1, d.2.1, d.2.2.1, d.2.2.2.1, d.2.2.2.2.1, d.2.1)).2) = (rEndsFirst d) by rfl)) ?_
  exact v_zret F hr hlk hQ (nar_b true) dX3_endsFirstMoment_14 (()) rfl (by first | rfl | (simp; done))
theorem cs_RX3_80 : CSV RX3 80 RX3 yX3_start cX3_start 1 none 0 := ⟨wC_yX3_start, wM_RX3_80, wIm_yX3_start, wSe_yX3_start, wI_RX3, by decide +kernel, by decide⟩
set_option maxHeartbeats 4000000 in
set_option maxRecDepth 100000 in
theorem m_X3_endsLine (lau : Launch) (G : GT) (ad : Nat → Nat) (L : LT) (Hs : HT) (P : PT) (Tr : TT) (Rg : RT) (Tx : XT) (d : DT) : MI lau G 1 yX3_endsLine cX3_endsLine 1 (some .boolean) [.ref (ad 7)] (wC ad G L Hs P Tr Rg Tx d) (fun u : Unit => wC ad G L Hs P Tr Rg Tx (rStart d)) (fun r u => r = bI true) := by
  refine mi_of (by decide +kernel) (Nat.le_of_ble_eq_true rfl) ?_
  intro p e s m args below meth c A Q F hr hlk hQ
  refine v_st (w' := wC ad G L Hs P Tr Rg Tx d) (pc' := 0) (st' := []) rfl rfl rfl [0] (lv' := [(0, .ref (ad 7))]) rfl ?_
  refine v_aload_n F dX3_endsLine_0 0 rfl rfl ?_
  refine v_cVVF F cs_RX3_80 dX3_endsLine_1 7 (ci := 3) rfl rfl (m_X3_start lau G ad L Hs P Tr Rg Tx d ) (by decide) rfl rfl (Nat.le_of_ble_eq_true rfl) ⟨Nat.zero_le _, Nat.zero_le _⟩ (fun u2 w3 => ?_)
  refine v_iconst (v := nI 1) F dX3_endsLine_4 (by decide) ?_
  exact v_zret F hr hlk hQ rfl dX3_endsLine_5 (()) rfl (by first | rfl | (simp; done))
set_option maxHeartbeats 4000000 in
set_option maxRecDepth 100000 in
theorem m_X3_isDigit (lau : Launch) (G : GT) (x : Nat) (hc : x ≤ 127) : MI lau G 0 yX3_isDigit cX3_isDigit 1 (some .boolean) [.int (nI x)] ([]) (fun u : Unit => []) (fun r u => r = bI (dg x)) := by
  refine mi_of (by decide +kernel) (Nat.le_of_ble_eq_true rfl) ?_
  intro p e s m args below meth c A Q F hr hlk hQ
  refine v_st (w' := []) (pc' := 0) (st' := []) rfl rfl rfl [0] (lv' := [(0, .int (nI x))]) rfl ?_
  refine v_iload_n F dX3_isDigit_0 0 rfl rfl ?_
  refine v_bipush (v := nI 48) F dX3_isDigit_1 (by decide) ?_
  refine v_icmp_lt F 16 dX3_isDigit_3 (by decide) (fun c1 => ?_) (fun c1 => ?_)
  · replace c1 := nL (a := x) (b := 48) (by omega) (by decide) c1
    refine v_iconst (v := nI 0) F dX3_isDigit_16 (by decide) ?_
    exact v_zret F hr hlk hQ rfl dX3_isDigit_17 (()) rfl (by simp [dg, bI, nI_one, nI_0]; omega)
  · replace c1 := nLn (a := x) (b := 48) (by omega) (by decide) c1
    refine v_iload_n F dX3_isDigit_6 0 rfl rfl ?_
    refine v_bipush (v := nI 57) F dX3_isDigit_7 (by decide) ?_
    refine v_icmp_gt F 16 dX3_isDigit_9 (by decide) (fun c2 => ?_) (fun c2 => ?_)
    · replace c2 := nT (a := x) (b := 57) (by omega) (by decide) c2
      refine v_iconst (v := nI 0) F dX3_isDigit_16 (by decide) ?_
      exact v_zret F hr hlk hQ rfl dX3_isDigit_17 (()) rfl (by simp [dg, bI, nI_one, nI_0]; omega)
    · replace c2 := nTn (a := x) (b := 57) (by omega) (by decide) c2
      refine v_iconst (v := nI 1) F dX3_isDigit_12 (by decide) ?_
      refine v_goto F 17 dX3_isDigit_13 (by decide) ?_
      exact v_zret F hr hlk hQ rfl dX3_isDigit_17 (()) rfl (by simp [dg, bI, nI_one, nI_0]; omega)
set_option maxHeartbeats 4000000 in
set_option maxRecDepth 100000 in
theorem m_X3_mayBecomeLast (lau : Launch) (G : GT) (ad : Nat → Nat) (L : LT) (Hs : HT) (P : PT) (Tr : TT) (Rg : RT) (Tx : XT) (d : DT) (h2 : d.2.1 ≤ 9999) (h3 : d.2.2.2.2.2 ≤ 9999) : MI lau G 0 yX3_mayBecomeLast cX3_mayBecomeLast 1 (some .boolean) [.ref (ad 7)] (wC ad G L Hs P Tr Rg Tx d) (fun u : Unit => wC ad G L Hs P Tr Rg Tx d) (fun r u => r = bI (rMay d)) := by
  refine mi_of (by decide +kernel) (Nat.le_of_ble_eq_true rfl) ?_
  intro p e s m args below meth c A Q F hr hlk hQ
  refine v_st (w' := wC ad G L Hs P Tr Rg Tx d) (pc' := 0) (st' := []) rfl rfl rfl [0] (lv' := [(0, .ref (ad 7))]) rfl ?_
  refine v_aload_n F dX3_mayBecomeLast_0 0 rfl rfl ?_
  refine v_get (v := .int (nI d.2.1)) F inlX3 (ci := 3) rfl 1 (by decide) rfl wF_RX3_15 dX3_mayBecomeLast_1 7 rfl rfl ?_
  refine v_aload_n F dX3_mayBecomeLast_4 0 rfl rfl ?_
  refine v_get (v := .int (nI d.2.2.2.2.2)) F inlX3 (ci := 3) rfl 5 (by decide) rfl wF_RX3_28 dX3_mayBecomeLast_5 7 rfl rfl ?_
  refine v_icmp_ge F 44 dX3_mayBecomeLast_8 (by decide) (fun c1 => ?_) (fun c1 => ?_)
  · replace c1 := nG (a := d.2.1) (b := d.2.2.2.2.2) (by omega) (by omega) c1
    refine v_iconst (v := nI 1) F dX3_mayBecomeLast_44 (by decide) ?_
    refine v_goto F 49 dX3_mayBecomeLast_45 (by decide) ?_
    exact v_zret F hr hlk hQ rfl dX3_mayBecomeLast_49 (()) rfl (by simp [rMay, bI, nI_one, nI_0]; omega)
  · replace c1 := nGn (a := d.2.1) (b := d.2.2.2.2.2) (by omega) (by omega) c1
    refine v_aload_n F dX3_mayBecomeLast_11 0 rfl rfl ?_
    refine v_get (v := .int (nI d.2.1)) F inlX3 (ci := 3) rfl 1 (by decide) rfl wF_RX3_15 dX3_mayBecomeLast_12 7 rfl rfl ?_
    refine v_if_le F 48 dX3_mayBecomeLast_15 (by decide) (fun c2 => ?_) (fun c2 => ?_)
    · replace c2 := nK (a := d.2.1) (b := 0) (by omega) (by decide) c2
      refine v_iconst (v := nI 0) F dX3_mayBecomeLast_48 (by decide) ?_
      exact v_zret F hr hlk hQ rfl dX3_mayBecomeLast_49 (()) rfl (by simp [rMay, bI, nI_one, nI_0]; omega)
    · replace c2 := nKn (a := d.2.1) (b := 0) (by omega) (by decide) c2
      refine v_aload_n F dX3_mayBecomeLast_18 0 rfl rfl ?_
      refine v_get (v := .int (nI d.2.1)) F inlX3 (ci := 3) rfl 1 (by decide) rfl wF_RX3_15 dX3_mayBecomeLast_19 7 rfl rfl ?_
      refine v_bipush (v := nI 10) F dX3_mayBecomeLast_22 (by decide) ?_
      refine v_icmp_ge F 48 dX3_mayBecomeLast_24 (by decide) (fun c3 => ?_) (fun c3 => ?_)
      · replace c3 := nG (a := d.2.1) (b := 10) (by omega) (by decide) c3
        refine v_iconst (v := nI 0) F dX3_mayBecomeLast_48 (by decide) ?_
        exact v_zret F hr hlk hQ rfl dX3_mayBecomeLast_49 (()) rfl (by simp [rMay, bI, nI_one, nI_0]; omega)
      · replace c3 := nGn (a := d.2.1) (b := 10) (by omega) (by decide) c3
        refine v_aload_n F dX3_mayBecomeLast_27 0 rfl rfl ?_
        refine v_get (v := .int (nI d.2.1)) F inlX3 (ci := 3) rfl 1 (by decide) rfl wF_RX3_15 dX3_mayBecomeLast_28 7 rfl rfl ?_
        refine v_bipush (v := nI 10) F dX3_mayBecomeLast_31 (by decide) ?_
        refine v_imul F dX3_mayBecomeLast_33 ?_
        refine v_topi (nI (d.2.1 * 10)) (pk_mul d.2.1 10) ?_
        refine v_bipush (v := nI 9) F dX3_mayBecomeLast_34 (by decide) ?_
        refine v_iadd F dX3_mayBecomeLast_36 ?_
        refine v_topi (nI ((d.2.1 * 10) + 9)) (nI_add (d.2.1 * 10) 9) ?_
        refine v_aload_n F dX3_mayBecomeLast_37 0 rfl rfl ?_
        refine v_get (v := .int (nI d.2.2.2.2.2)) F inlX3 (ci := 3) rfl 5 (by decide) rfl wF_RX3_28 dX3_mayBecomeLast_38 7 rfl rfl ?_
        refine v_icmp_lt F 48 dX3_mayBecomeLast_41 (by decide) (fun c4 => ?_) (fun c4 => ?_)
        · replace c4 := nL (a := ((d.2.1 * 10) + 9)) (b := d.2.2.2.2.2) (by omega) (by omega) c4
          refine v_iconst (v := nI 0) F dX3_mayBecomeLast_48 (by decide) ?_
          exact v_zret F hr hlk hQ rfl dX3_mayBecomeLast_49 (()) rfl (by simp [rMay, bI, nI_one, nI_0]; omega)
        · replace c4 := nLn (a := ((d.2.1 * 10) + 9)) (b := d.2.2.2.2.2) (by omega) (by omega) c4
          refine v_iconst (v := nI 1) F dX3_mayBecomeLast_44 (by decide) ?_
          refine v_goto F 49 dX3_mayBecomeLast_45 (by decide) ?_
          exact v_zret F hr hlk hQ rfl dX3_mayBecomeLast_49 (()) rfl (by simp [rMay, bI, nI_one, nI_0]; omega)
theorem cs_RX3_83 : CSS RX3 83 yX3_isDigit cX3_isDigit 1 (some .boolean) 1 := ⟨wC_yX3_isDigit, wM_RX3_83, wSt_yX3_isDigit, wI_RX3, by decide +kernel, by decide⟩
set_option maxHeartbeats 4000000 in
set_option maxRecDepth 100000 in
theorem m_X3_startsNumber (lau : Launch) (G : GT) (ad : Nat → Nat) (L : LT) (Hs : HT) (P : PT) (Tr : TT) (Rg : RT) (Tx : XT) (d : DT) (x k : Nat) (hc : x ≤ 127) : MI lau G 1 yX3_startsNumber cX3_startsNumber 3 (some .boolean) [.ref (ad 7), .int (nI x), .int (nI k)] (wC ad G L Hs P Tr Rg Tx d) (fun u : Unit => wC ad G L Hs P Tr Rg Tx ((rStartsNumber d x k).2)) (fun r u => r = bI ((rStartsNumber d x k).1)) := by
  refine mi_of (by decide +kernel) (Nat.le_of_ble_eq_true rfl) ?_
  intro p e s m args below meth c A Q F hr hlk hQ
  refine v_st (w' := wC ad G L Hs P Tr Rg Tx d) (pc' := 0) (st' := []) rfl rfl rfl [0, 1, 2] (lv' := [(0, .ref (ad 7)), (1, .int (nI x)), (2, .int (nI k))]) rfl ?_
  refine v_iload_n F dX3_startsNumber_0 1 rfl rfl ?_
  refine v_cSIE F cs_RX3_83 dX3_startsNumber_1 (m_X3_isDigit lau G x (by omega)) (by decide) rfl rfl (Nat.le_of_ble_eq_true rfl) ⟨Nat.zero_le _, Nat.zero_le _⟩ (fun r1 u2 w3 => ?_)
  subst w3
  refine v_if_ne F 9 dX3_startsNumber_4 (by decide) (fun hdg => ?_) (fun hdg => ?_)
  · replace hdg := bI_t hdg
    refine v_aload_n F dX3_startsNumber_9 0 rfl rfl ?_
    refine v_iload_n F dX3_startsNumber_10 1 rfl rfl ?_
    refine v_bipush (v := nI 48) F dX3_startsNumber_11 (by decide) ?_
    refine v_isub F dX3_startsNumber_13 ?_
    refine v_topi (nI (x - 48)) (pk_sub (dg_le hdg)) ?_
    refine v_put F inlX3 (ci := 3) rfl tyX3 tyX3_ok nmX3 1 (by decide) rfl rfl wF_RX3_15 dX3_startsNumber_14 (ty := .int) (by decide +kernel) rfl rfl 7 rfl (Nat.le_of_ble_eq_true rfl) (wC ad G L Hs P Tr Rg Tx (d.1, x - 48, d.2.2.1, d.2.2.2.1, d.2.2.2.2.1, d.2.2.2.2.2)) rfl ?_
    refine v_aload_n F dX3_startsNumber_17 0 rfl rfl ?_
    refine v_iload_n F dX3_startsNumber_18 2 rfl rfl ?_
    refine v_cVIF F cs_RX3_71 dX3_startsNumber_19 7 (ci := 3) rfl rfl (m_X3_entered lau G ad L Hs P Tr Rg Tx (d.1, x - 48, d.2.2.1, d.2.2.2.1, d.2.2.2.2.1, d.2.2.2.2.2) k ) (by decide) rfl rfl (Nat.le_of_ble_eq_true rfl) ⟨Nat.zero_le _, Nat.zero_le _⟩ (fun r4 u5 w6 => ?_)
    subst w6
    refine v_w (w' := wC ad G L Hs P Tr Rg Tx ((rStartsNumber d x k).2)) (congrArg (fun z_ => wC ad G L Hs P Tr Rg Tx z_) (show (k, ((d.1, x - 48, d.2.2.1, d.2.2.2.1, d.2.2.2.2.1, d.2.2.2.2.2)).2) = ((rStartsNumber d x k).2) by simp [rStartsNumber, *])) ?_
    exact v_zret F hr hlk hQ (nar_b true) dX3_startsNumber_22 (()) rfl (by simp [rStartsNumber, bI, nI_one, nI_0, *])
  · replace hdg := bI_f hdg
    refine v_iconst (v := nI 0) F dX3_startsNumber_7 (by decide) ?_
    refine v_w (w' := wC ad G L Hs P Tr Rg Tx ((rStartsNumber d x k).2)) (congrArg (fun z_ => wC ad G L Hs P Tr Rg Tx z_) (show d = ((rStartsNumber d x k).2) by simp [rStartsNumber, *])) ?_
    exact v_zret F hr hlk hQ rfl dX3_startsNumber_8 (()) rfl (by simp [rStartsNumber, bI, nI_one, nI_0, *])
set_option maxHeartbeats 4000000 in
set_option maxRecDepth 100000 in
theorem m_X3_extendsNumber (lau : Launch) (G : GT) (ad : Nat → Nat) (L : LT) (Hs : HT) (P : PT) (Tr : TT) (Rg : RT) (Tx : XT) (d : DT) (x k : Nat) (hc : x ≤ 127) (h2 : d.2.1 ≤ 9999) (hk : k ≤ 9999) : MI lau G 1 yX3_extendsNumber cX3_extendsNumber 3 (some .boolean) [.ref (ad 7), .int (nI x), .int (nI k)] (wC ad G L Hs P Tr Rg Tx d) (fun u : Unit => wC ad G L Hs P Tr Rg Tx ((rExtends d x k).2)) (fun r u => r = bI ((rExtends d x k).1)) := by
  refine mi_of (by decide +kernel) (Nat.le_of_ble_eq_true rfl) ?_
  intro p e s m args below meth c A Q F hr hlk hQ
  refine v_st (w' := wC ad G L Hs P Tr Rg Tx d) (pc' := 0) (st' := []) rfl rfl rfl [0, 1, 2] (lv' := [(0, .ref (ad 7)), (1, .int (nI x)), (2, .int (nI k))]) rfl ?_
  refine v_iload_n F dX3_extendsNumber_0 1 rfl rfl ?_
  refine v_cSIE F cs_RX3_83 dX3_extendsNumber_1 (m_X3_isDigit lau G x (by omega)) (by decide) rfl rfl (Nat.le_of_ble_eq_true rfl) ⟨Nat.zero_le _, Nat.zero_le _⟩ (fun r1 u2 w3 => ?_)
  subst w3
  refine v_if_eq F 30 dX3_extendsNumber_4 (by decide) (fun hdg => ?_) (fun hdg => ?_)
  · replace hdg := bI_f hdg
    refine v_iconst (v := nI 0) F dX3_extendsNumber_30 (by decide) ?_
    refine v_w (w' := wC ad G L Hs P Tr Rg Tx ((rExtends d x k).2)) (congrArg (fun z_ => wC ad G L Hs P Tr Rg Tx z_) (show d = ((rExtends d x k).2) by first | exact (rExtends_t hdg hnz hle).2.symm | (rw [rExtends_f hle]; done) | (simp [rExtends, *]; done))) ?_
    exact v_zret F hr hlk hQ rfl dX3_extendsNumber_31 (()) rfl (by first | (rw [rExtends_f hle]; rfl) | (rw [(rExtends_t hdg hnz hle).1]; rfl) | (simp [rExtends, bI, nI_one, nI_0, *]; done))
  · replace hdg := bI_t hdg
    refine v_aload_n F dX3_extendsNumber_7 0 rfl rfl ?_
    refine v_get (v := .int (nI d.2.1)) F inlX3 (ci := 3) rfl 1 (by decide) rfl wF_RX3_15 dX3_extendsNumber_8 7 rfl rfl ?_
    refine v_if_eq F 30 dX3_extendsNumber_11 (by decide) (fun hnz => ?_) (fun hnz => ?_)
    · replace hnz := nE (a := d.2.1) (b := 0) (by omega) (by decide) hnz
      refine v_iconst (v := nI 0) F dX3_extendsNumber_30 (by decide) ?_
      refine v_w (w' := wC ad G L Hs P Tr Rg Tx ((rExtends d x k).2)) (congrArg (fun z_ => wC ad G L Hs P Tr Rg Tx z_) (show d = ((rExtends d x k).2) by first | exact (rExtends_t hdg hnz hle).2.symm | (rw [rExtends_f hle]; done) | (simp [rExtends, *]; done))) ?_
      exact v_zret F hr hlk hQ rfl dX3_extendsNumber_31 (()) rfl (by first | (rw [rExtends_f hle]; rfl) | (rw [(rExtends_t hdg hnz hle).1]; rfl) | (simp [rExtends, bI, nI_one, nI_0, *]; done))
    · replace hnz := nEn (a := d.2.1) (b := 0) (by omega) (by decide) hnz
      refine v_aload_n F dX3_extendsNumber_14 0 rfl rfl ?_
      refine v_get (v := .int (nI d.2.1)) F inlX3 (ci := 3) rfl 1 (by decide) rfl wF_RX3_15 dX3_extendsNumber_15 7 rfl rfl ?_
      refine v_bipush (v := nI 10) F dX3_extendsNumber_18 (by decide) ?_
      refine v_imul F dX3_extendsNumber_20 ?_
      refine v_topi (nI (d.2.1 * 10)) (pk_mul d.2.1 10) ?_
      refine v_iload_n F dX3_extendsNumber_21 1 rfl rfl ?_
      refine v_iadd F dX3_extendsNumber_22 ?_
      refine v_topi (nI ((d.2.1 * 10) + x)) (nI_add (d.2.1 * 10) x) ?_
      refine v_bipush (v := nI 48) F dX3_extendsNumber_23 (by decide) ?_
      refine v_isub F dX3_extendsNumber_25 ?_
      refine v_topi (nI (((d.2.1 * 10) + x) - 48)) (pk_sub (Nat.le_trans (dg_le hdg) (Nat.le_add_left _ _))) ?_
      refine v_iload_n F dX3_extendsNumber_26 2 rfl rfl ?_
      refine v_icmp_le F 32 dX3_extendsNumber_27 (by decide) (fun hle => ?_) (fun hle => ?_)
      · replace hle := nK (a := (((d.2.1 * 10) + x) - 48)) (b := k) (by omega) (by omega) hle
        refine v_aload_n F dX3_extendsNumber_32 0 rfl rfl ?_
        refine v_aload_n F dX3_extendsNumber_33 0 rfl rfl ?_
        refine v_get (v := .int (nI d.2.1)) F inlX3 (ci := 3) rfl 1 (by decide) rfl wF_RX3_15 dX3_extendsNumber_34 7 rfl rfl ?_
        refine v_bipush (v := nI 10) F dX3_extendsNumber_37 (by decide) ?_
        refine v_imul F dX3_extendsNumber_39 ?_
        refine v_topi (nI (d.2.1 * 10)) (pk_mul d.2.1 10) ?_
        refine v_iload_n F dX3_extendsNumber_40 1 rfl rfl ?_
        refine v_iadd F dX3_extendsNumber_41 ?_
        refine v_topi (nI ((d.2.1 * 10) + x)) (nI_add (d.2.1 * 10) x) ?_
        refine v_bipush (v := nI 48) F dX3_extendsNumber_42 (by decide) ?_
        refine v_isub F dX3_extendsNumber_44 ?_
        refine v_topi (nI (((d.2.1 * 10) + x) - 48)) (pk_sub (Nat.le_trans (dg_le hdg) (Nat.le_add_left _ _))) ?_
        refine v_put F inlX3 (ci := 3) rfl tyX3 tyX3_ok nmX3 1 (by decide) rfl rfl wF_RX3_15 dX3_extendsNumber_45 (ty := .int) (by decide +kernel) rfl rfl 7 rfl (Nat.le_of_ble_eq_true rfl) (wC ad G L Hs P Tr Rg Tx (d.1, ((d.2.1 * 10) + x) - 48, d.2.2.1, d.2.2.2.1, d.2.2.2.2.1, d.2.2.2.2.2)) rfl ?_
        refine v_iconst (v := nI 1) F dX3_extendsNumber_48 (by decide) ?_
        refine v_w (w' := wC ad G L Hs P Tr Rg Tx ((rExtends d x k).2)) (congrArg (fun z_ => wC ad G L Hs P Tr Rg Tx z_) (show (d.1, ((d.2.1 * 10) + x) - 48, d.2.2.1, d.2.2.2.1, d.2.2.2.2.1, d.2.2.2.2.2) = ((rExtends d x k).2) by first | exact (rExtends_t hdg hnz hle).2.symm | (rw [rExtends_f hle]; done) | (simp [rExtends, *]; done))) ?_
        exact v_zret F hr hlk hQ rfl dX3_extendsNumber_49 (()) rfl (by first | (rw [rExtends_f hle]; rfl) | (rw [(rExtends_t hdg hnz hle).1]; rfl) | (simp [rExtends, bI, nI_one, nI_0, *]; done))
      · replace hle := nKn (a := (((d.2.1 * 10) + x) - 48)) (b := k) (by omega) (by omega) hle
        refine v_iconst (v := nI 0) F dX3_extendsNumber_30 (by decide) ?_
        refine v_w (w' := wC ad G L Hs P Tr Rg Tx ((rExtends d x k).2)) (congrArg (fun z_ => wC ad G L Hs P Tr Rg Tx z_) (show d = ((rExtends d x k).2) by first | exact (rExtends_t hdg hnz hle).2.symm | (rw [rExtends_f hle]; done) | (simp [rExtends, *]; done))) ?_
        exact v_zret F hr hlk hQ rfl dX3_extendsNumber_31 (()) rfl (by first | (rw [rExtends_f hle]; rfl) | (rw [(rExtends_t hdg hnz hle).1]; rfl) | (simp [rExtends, bI, nI_one, nI_0, *]; done))
theorem cs_RX3_41 : CSV RX3 41 RX3 yX3_goesNegative cX3_goesNegative 2 (some .boolean) 1 := ⟨wC_yX3_goesNegative, wM_RX3_41, wIm_yX3_goesNegative, wSe_yX3_goesNegative, wI_RX3, by decide +kernel, by decide⟩
set_option maxHeartbeats 4000000 in
set_option maxRecDepth 100000 in
theorem m_X3_takesSign (lau : Launch) (G : GT) (ad : Nat → Nat) (L : LT) (Hs : HT) (P : PT) (Tr : TT) (Rg : RT) (Tx : XT) (d : DT) (x : Nat) (hc : x ≤ 127) : MI lau G 2 yX3_takesSign cX3_takesSign 2 (some .boolean) [.ref (ad 7), .int (nI x)] (wC ad G L Hs P Tr Rg Tx d) (fun u : Unit => wC ad G L Hs P Tr Rg Tx ((rSign d x).2)) (fun r u => r = bI ((rSign d x).1)) := by
  refine mi_of (by decide +kernel) (Nat.le_of_ble_eq_true rfl) ?_
  intro p e s m args below meth c A Q F hr hlk hQ
  refine v_st (w' := wC ad G L Hs P Tr Rg Tx d) (pc' := 0) (st' := []) rfl rfl rfl [0, 1] (lv' := [(0, .ref (ad 7)), (1, .int (nI x))]) rfl ?_
  refine v_iload_n F dX3_takesSign_0 1 rfl rfl ?_
  refine v_bipush (v := nI 45) F dX3_takesSign_1 (by decide) ?_
  refine v_icmp_ne F 12 dX3_takesSign_3 (by decide) (fun c1 => ?_) (fun c1 => ?_)
  · replace c1 := nEn (a := x) (b := 45) (by omega) (by decide) c1
    refine v_iload_n F dX3_takesSign_12 1 rfl rfl ?_
    refine v_bipush (v := nI 43) F dX3_takesSign_13 (by decide) ?_
    refine v_icmp_ne F 30 dX3_takesSign_15 (by decide) (fun c2 => ?_) (fun c2 => ?_)
    · replace c2 := nEn (a := x) (b := 43) (by omega) (by decide) c2
      refine v_iconst (v := nI 0) F dX3_takesSign_30 (by decide) ?_
      refine v_w (w' := wC ad G L Hs P Tr Rg Tx ((rSign d x).2)) (congrArg (fun z_ => wC ad G L Hs P Tr Rg Tx z_) (show d = ((rSign d x).2) by simp [rSign, *])) ?_
      exact v_zret F hr hlk hQ rfl dX3_takesSign_31 (()) rfl (by simp [rSign, bI, nI_one, nI_0, *])
    · replace c2 := nE (a := x) (b := 43) (by omega) (by decide) c2
      refine v_aload_n F dX3_takesSign_18 0 rfl rfl ?_
      refine v_iconst (v := nI 4) F dX3_takesSign_19 (by decide) ?_
      refine v_cVIF F cs_RX3_71 dX3_takesSign_20 7 (ci := 3) rfl rfl (m_X3_entered lau G ad L Hs P Tr Rg Tx d 4 ) (by decide) rfl rfl (Nat.le_of_ble_eq_true rfl) ⟨Nat.zero_le _, Nat.zero_le _⟩ (fun r3 u4 w5 => ?_)
      subst w5
      refine v_if_eq F 30 dX3_takesSign_23 (by decide) (fun h => absurd h (by decide)) (fun _ => ?_)
      refine v_iconst (v := nI 1) F dX3_takesSign_26 (by decide) ?_
      refine v_goto F 31 dX3_takesSign_27 (by decide) ?_
      refine v_w (w' := wC ad G L Hs P Tr Rg Tx ((rSign d x).2)) (congrArg (fun z_ => wC ad G L Hs P Tr Rg Tx z_) (show (4, d.2) = ((rSign d x).2) by simp [rSign, *])) ?_
      exact v_zret F hr hlk hQ rfl dX3_takesSign_31 (()) rfl (by simp [rSign, bI, nI_one, nI_0, *])
  · replace c1 := nE (a := x) (b := 45) (by omega) (by decide) c1
    refine v_aload_n F dX3_takesSign_6 0 rfl rfl ?_
    refine v_iconst (v := nI 4) F dX3_takesSign_7 (by decide) ?_
    refine v_cVIF F cs_RX3_41 dX3_takesSign_8 7 (ci := 3) rfl rfl (m_X3_goesNegative lau G ad L Hs P Tr Rg Tx d 4 ) (by decide) rfl rfl (Nat.le_of_ble_eq_true rfl) ⟨Nat.zero_le _, Nat.zero_le _⟩ (fun r6 u7 w8 => ?_)
    subst w8
    refine v_w (w' := wC ad G L Hs P Tr Rg Tx ((rSign d x).2)) (congrArg (fun z_ => wC ad G L Hs P Tr Rg Tx z_) (show (rNeg d 4) = ((rSign d x).2) by simp [rSign, *])) ?_
    exact v_zret F hr hlk hQ (nar_b true) dX3_takesSign_11 (()) rfl (by simp [rSign, bI, nI_one, nI_0, *])
theorem cs_RX3_53 : CSV RX3 53 RX3 yX3_extendsNumber cX3_extendsNumber 3 (some .boolean) 2 := ⟨wC_yX3_extendsNumber, wM_RX3_53, wIm_yX3_extendsNumber, wSe_yX3_extendsNumber, wI_RX3, by decide +kernel, by decide⟩
theorem cs_RX3_74 : CSV RX3 74 RX3 yX3_endsLine cX3_endsLine 1 (some .boolean) 0 := ⟨wC_yX3_endsLine, wM_RX3_74, wIm_yX3_endsLine, wSe_yX3_endsLine, wI_RX3, by decide +kernel, by decide⟩
set_option maxHeartbeats 4000000 in
set_option maxRecDepth 100000 in
theorem m_X3_takesInOffset (lau : Launch) (G : GT) (ad : Nat → Nat) (L : LT) (Hs : HT) (P : PT) (Tr : TT) (Rg : RT) (Tx : XT) (d : DT) (x : Nat) (hc : x ≤ 127) (h2 : d.2.1 ≤ 9999) : MI lau G 2 yX3_takesInOffset cX3_takesInOffset 2 (some .boolean) [.ref (ad 7), .int (nI x)] (wC ad G L Hs P Tr Rg Tx d) (fun u : Unit => wC ad G L Hs P Tr Rg Tx ((rOff d x).2)) (fun r u => r = bI ((rOff d x).1)) := by
  refine mi_of (by decide +kernel) (Nat.le_of_ble_eq_true rfl) ?_
  intro p e s m args below meth c A Q F hr hlk hQ
  refine v_st (w' := wC ad G L Hs P Tr Rg Tx d) (pc' := 0) (st' := []) rfl rfl rfl [0, 1] (lv' := [(0, .ref (ad 7)), (1, .int (nI x))]) rfl ?_
  refine v_iload_n F dX3_takesInOffset_0 1 rfl rfl ?_
  refine v_bipush (v := nI 59) F dX3_takesInOffset_1 (by decide) ?_
  refine v_icmp_ne F 11 dX3_takesInOffset_3 (by decide) (fun c1 => ?_) (fun c1 => ?_)
  · replace c1 := nEn (a := x) (b := 59) (by omega) (by decide) c1
    refine v_iload_n F dX3_takesInOffset_11 1 rfl rfl ?_
    refine v_bipush (v := nI 64) F dX3_takesInOffset_12 (by decide) ?_
    refine v_icmp_ne F 32 dX3_takesInOffset_14 (by decide) (fun c2 => ?_) (fun c2 => ?_)
    · replace c2 := nEn (a := x) (b := 64) (by omega) (by decide) c2
      refine v_aload_n F dX3_takesInOffset_32 0 rfl rfl ?_
      refine v_iload_n F dX3_takesInOffset_33 1 rfl rfl ?_
      refine v_sipush (v := nI 9999) F dX3_takesInOffset_34 (by decide) ?_
      refine v_cVIF F cs_RX3_53 dX3_takesInOffset_37 7 (ci := 3) rfl rfl (m_X3_extendsNumber lau G ad L Hs P Tr Rg Tx d x 9999 (by omega) h2 (by omega)) (by decide) rfl rfl (Nat.le_of_ble_eq_true rfl) ⟨Nat.zero_le _, Nat.zero_le _⟩ (fun r3 u4 w5 => ?_)
      subst w5
      refine v_w (w' := wC ad G L Hs P Tr Rg Tx ((rOff d x).2)) (congrArg (fun z_ => wC ad G L Hs P Tr Rg Tx z_) (show ((rExtends d x 9999).2) = ((rOff d x).2) by simp [rOff, *])) ?_
      exact v_zret F hr hlk hQ (nar_b ((rExtends d x 9999).1)) dX3_takesInOffset_40 (()) rfl (by simp [rOff, bI, nI_one, nI_0, *])
    · replace c2 := nE (a := x) (b := 64) (by omega) (by decide) c2
      refine v_aload_n F dX3_takesInOffset_17 0 rfl rfl ?_
      refine v_aload_n F dX3_takesInOffset_18 0 rfl rfl ?_
      refine v_cVIF F cs_RX3_31 dX3_takesInOffset_19 7 (ci := 3) rfl rfl (m_X3_signedNumber lau G ad L Hs P Tr Rg Tx d ) (by decide) rfl rfl (Nat.le_of_ble_eq_true rfl) ⟨Nat.zero_le _, Nat.zero_le _⟩ (fun r6 u7 w8 => ?_)
      subst w8
      refine v_put F inlX3 (ci := 3) rfl tyX3 tyX3_ok nmX3 4 (by decide) rfl rfl wF_RX3_25 dX3_takesInOffset_22 (ty := .int) (by decide +kernel) rfl rfl 7 rfl (Nat.le_of_ble_eq_true rfl) (wC ad G L Hs P Tr Rg Tx (d.1, d.2.1, d.2.2.1, d.2.2.2.1, (rSigned d), d.2.2.2.2.2)) rfl ?_
      refine v_aload_n F dX3_takesInOffset_25 0 rfl rfl ?_
      refine v_bipush (v := nI 6) F dX3_takesInOffset_26 (by decide) ?_
      refine v_cVIF F cs_RX3_71 dX3_takesInOffset_28 7 (ci := 3) rfl rfl (m_X3_entered lau G ad L Hs P Tr Rg Tx (d.1, d.2.1, d.2.2.1, d.2.2.2.1, (rSigned d), d.2.2.2.2.2) 6 ) (by decide) rfl rfl (Nat.le_of_ble_eq_true rfl) ⟨Nat.zero_le _, Nat.zero_le _⟩ (fun r9 u10 w11 => ?_)
      subst w11
      refine v_w (w' := wC ad G L Hs P Tr Rg Tx ((rOff d x).2)) (congrArg (fun z_ => wC ad G L Hs P Tr Rg Tx z_) (show (6, ((d.1, d.2.1, d.2.2.1, d.2.2.2.1, (rSigned d), d.2.2.2.2.2)).2) = ((rOff d x).2) by simp [rOff, *])) ?_
      exact v_zret F hr hlk hQ (nar_b true) dX3_takesInOffset_31 (()) rfl (by simp [rOff, bI, nI_one, nI_0, *])
  · replace c1 := nE (a := x) (b := 59) (by omega) (by decide) c1
    refine v_aload_n F dX3_takesInOffset_6 0 rfl rfl ?_
    refine v_cVIF F cs_RX3_74 dX3_takesInOffset_7 7 (ci := 3) rfl rfl (m_X3_endsLine lau G ad L Hs P Tr Rg Tx d ) (by decide) rfl rfl (Nat.le_of_ble_eq_true rfl) ⟨Nat.zero_le _, Nat.zero_le _⟩ (fun r12 u13 w14 => ?_)
    subst w14
    refine v_w (w' := wC ad G L Hs P Tr Rg Tx ((rOff d x).2)) (congrArg (fun z_ => wC ad G L Hs P Tr Rg Tx z_) (show (rStart d) = ((rOff d x).2) by simp [rOff, *])) ?_
    exact v_zret F hr hlk hQ (nar_b true) dX3_takesInOffset_10 (()) rfl (by simp [rOff, bI, nI_one, nI_0, *])
theorem cs_RX3_65 : CSV RX3 65 RX3 yX3_mayBecomeLast cX3_mayBecomeLast 1 (some .boolean) 0 := ⟨wC_yX3_mayBecomeLast, wM_RX3_65, wIm_yX3_mayBecomeLast, wSe_yX3_mayBecomeLast, wI_RX3, by decide +kernel, by decide⟩
theorem cs_RX3_77 : CSV RX3 77 RX3 yX3_hasWholeLine cX3_hasWholeLine 1 (some .boolean) 0 := ⟨wC_yX3_hasWholeLine, wM_RX3_77, wIm_yX3_hasWholeLine, wSe_yX3_hasWholeLine, wI_RX3, by decide +kernel, by decide⟩
set_option maxHeartbeats 4000000 in
set_option maxRecDepth 100000 in
theorem m_X3_takesInLast (lau : Launch) (G : GT) (ad : Nat → Nat) (L : LT) (Hs : HT) (P : PT) (Tr : TT) (Rg : RT) (Tx : XT) (d : DT) (x : Nat) (hc : x ≤ 127) (h1 : d.1 ≤ 9) (h2 : d.2.1 ≤ 9999) (h3 : d.2.2.2.2.2 ≤ 9999) : MI lau G 2 yX3_takesInLast cX3_takesInLast 2 (some .boolean) [.ref (ad 7), .int (nI x)] (wC ad G L Hs P Tr Rg Tx d) (fun u : Unit => wC ad G L Hs P Tr Rg Tx ((rLast d x).2)) (fun r u => r = bI ((rLast d x).1)) := by
  refine mi_of (by decide +kernel) (Nat.le_of_ble_eq_true rfl) ?_
  intro p e s m args below meth c A Q F hr hlk hQ
  refine v_st (w' := wC ad G L Hs P Tr Rg Tx d) (pc' := 0) (st' := []) rfl rfl rfl [0, 1] (lv' := [(0, .ref (ad 7)), (1, .int (nI x))]) rfl ?_
  refine v_iload_n F dX3_takesInLast_0 1 rfl rfl ?_
  refine v_bipush (v := nI 59) F dX3_takesInLast_1 (by decide) ?_
  refine v_icmp_ne F 26 dX3_takesInLast_3 (by decide) (fun c1 => ?_) (fun c1 => ?_)
  · replace c1 := nEn (a := x) (b := 59) (by omega) (by decide) c1
    refine v_aload_n F dX3_takesInLast_26 0 rfl rfl ?_
    refine v_iload_n F dX3_takesInLast_27 1 rfl rfl ?_
    refine v_bipush (v := nI 99) F dX3_takesInLast_28 (by decide) ?_
    refine v_cVIF F cs_RX3_53 dX3_takesInLast_30 7 (ci := 3) rfl rfl (m_X3_extendsNumber lau G ad L Hs P Tr Rg Tx d x 99 (by omega) h2 (by omega)) (by decide) rfl rfl (Nat.le_of_ble_eq_true rfl) ⟨Nat.zero_le _, Nat.zero_le _⟩ (fun r2 u3 w4 => ?_)
    subst w4
    refine v_if_eq F 47 dX3_takesInLast_33 (by decide) (fun c5 => ?_) (fun c5 => ?_)
    · replace c5 := bI_f c5
      refine v_iconst (v := nI 0) F dX3_takesInLast_47 (by decide) ?_
      refine v_w (w' := wC ad G L Hs P Tr Rg Tx ((rLast d x).2)) (congrArg (fun z_ => wC ad G L Hs P Tr Rg Tx z_) (show ((rExtends d x 99).2) = ((rLast d x).2) by simp [rLast, *])) ?_
      exact v_zret F hr hlk hQ rfl dX3_takesInLast_48 (()) rfl (by simp [rLast, bI, nI_one, nI_0, *])
    · replace c5 := bI_t c5
      refine v_aload_n F dX3_takesInLast_36 0 rfl rfl ?_
      refine v_cVIF F cs_RX3_65 dX3_takesInLast_37 7 (ci := 3) rfl rfl (m_X3_mayBecomeLast lau G ad L Hs P Tr Rg Tx ((rExtends d x 99).2) ((rExtends_rng d x 99 h2 h3 (by omega)).1) ((rExtends_rng d x 99 h2 h3 (by omega)).2)) (by decide) rfl rfl (Nat.le_of_ble_eq_true rfl) ⟨Nat.zero_le _, Nat.zero_le _⟩ (fun r6 u7 w8 => ?_)
      subst w8
      refine v_if_eq F 47 dX3_takesInLast_40 (by decide) (fun c9 => ?_) (fun c9 => ?_)
      · replace c9 := bI_f c9
        refine v_iconst (v := nI 0) F dX3_takesInLast_47 (by decide) ?_
        refine v_w (w' := wC ad G L Hs P Tr Rg Tx ((rLast d x).2)) (congrArg (fun z_ => wC ad G L Hs P Tr Rg Tx z_) (show ((rExtends d x 99).2) = ((rLast d x).2) by simp [rLast, *])) ?_
        exact v_zret F hr hlk hQ rfl dX3_takesInLast_48 (()) rfl (by simp [rLast, bI, nI_one, nI_0, *])
      · replace c9 := bI_t c9
        refine v_iconst (v := nI 1) F dX3_takesInLast_43 (by decide) ?_
        refine v_goto F 48 dX3_takesInLast_44 (by decide) ?_
        refine v_w (w' := wC ad G L Hs P Tr Rg Tx ((rLast d x).2)) (congrArg (fun z_ => wC ad G L Hs P Tr Rg Tx z_) (show ((rExtends d x 99).2) = ((rLast d x).2) by simp [rLast, *])) ?_
        exact v_zret F hr hlk hQ rfl dX3_takesInLast_48 (()) rfl (by simp [rLast, bI, nI_one, nI_0, *])
  · replace c1 := nE (a := x) (b := 59) (by omega) (by decide) c1
    refine v_aload_n F dX3_takesInLast_6 0 rfl rfl ?_
    refine v_cVIF F cs_RX3_77 dX3_takesInLast_7 7 (ci := 3) rfl rfl (m_X3_hasWholeLine lau G ad L Hs P Tr Rg Tx d h1 h2 h3) (by decide) rfl rfl (Nat.le_of_ble_eq_true rfl) ⟨Nat.zero_le _, Nat.zero_le _⟩ (fun r10 u11 w12 => ?_)
    subst w12
    refine v_if_eq F 24 dX3_takesInLast_10 (by decide) (fun c13 => ?_) (fun c13 => ?_)
    · replace c13 := bI_f c13
      refine v_iconst (v := nI 0) F dX3_takesInLast_24 (by decide) ?_
      refine v_w (w' := wC ad G L Hs P Tr Rg Tx ((rLast d x).2)) (congrArg (fun z_ => wC ad G L Hs P Tr Rg Tx z_) (show d = ((rLast d x).2) by simp [rLast, *])) ?_
      exact v_zret F hr hlk hQ rfl dX3_takesInLast_25 (()) rfl (by simp [rLast, bI, nI_one, nI_0, *])
    · replace c13 := bI_t c13
      refine v_aload_n F dX3_takesInLast_13 0 rfl rfl ?_
      refine v_cVIF F cs_RX3_74 dX3_takesInLast_14 7 (ci := 3) rfl rfl (m_X3_endsLine lau G ad L Hs P Tr Rg Tx d ) (by decide) rfl rfl (Nat.le_of_ble_eq_true rfl) ⟨Nat.zero_le _, Nat.zero_le _⟩ (fun r14 u15 w16 => ?_)
      subst w16
      refine v_if_eq F 24 dX3_takesInLast_17 (by decide) (fun h => absurd h (by decide)) (fun _ => ?_)
      refine v_iconst (v := nI 1) F dX3_takesInLast_20 (by decide) ?_
      refine v_goto F 25 dX3_takesInLast_21 (by decide) ?_
      refine v_w (w' := wC ad G L Hs P Tr Rg Tx ((rLast d x).2)) (congrArg (fun z_ => wC ad G L Hs P Tr Rg Tx z_) (show (rStart d) = ((rLast d x).2) by simp [rLast, *])) ?_
      exact v_zret F hr hlk hQ rfl dX3_takesInLast_25 (()) rfl (by simp [rLast, bI, nI_one, nI_0, *])
theorem cs_RX3_45 : CSV RX3 45 RX3 yX3_startsNumber cX3_startsNumber 3 (some .boolean) 2 := ⟨wC_yX3_startsNumber, wM_RX3_45, wIm_yX3_startsNumber, wSe_yX3_startsNumber, wI_RX3, by decide +kernel, by decide⟩
theorem cs_RX3_49 : CSV RX3 49 RX3 yX3_endsSlope cX3_endsSlope 1 (some .boolean) 0 := ⟨wC_yX3_endsSlope, wM_RX3_49, wIm_yX3_endsSlope, wSe_yX3_endsSlope, wI_RX3, by decide +kernel, by decide⟩
theorem cs_RX3_56 : CSV RX3 56 RX3 yX3_takesSign cX3_takesSign 2 (some .boolean) 1 := ⟨wC_yX3_takesSign, wM_RX3_56, wIm_yX3_takesSign, wSe_yX3_takesSign, wI_RX3, by decide +kernel, by decide⟩
theorem cs_RX3_59 : CSV RX3 59 RX3 yX3_takesInOffset cX3_takesInOffset 2 (some .boolean) 1 := ⟨wC_yX3_takesInOffset, wM_RX3_59, wIm_yX3_takesInOffset, wSe_yX3_takesInOffset, wI_RX3, by decide +kernel, by decide⟩
theorem cs_RX3_62 : CSV RX3 62 RX3 yX3_endsFirstMoment cX3_endsFirstMoment 1 (some .boolean) 0 := ⟨wC_yX3_endsFirstMoment, wM_RX3_62, wIm_yX3_endsFirstMoment, wSe_yX3_endsFirstMoment, wI_RX3, by decide +kernel, by decide⟩
theorem cs_RX3_68 : CSV RX3 68 RX3 yX3_takesInLast cX3_takesInLast 2 (some .boolean) 1 := ⟨wC_yX3_takesInLast, wM_RX3_68, wIm_yX3_takesInLast, wSe_yX3_takesInLast, wI_RX3, by decide +kernel, by decide⟩
set_option maxHeartbeats 4000000 in
set_option maxRecDepth 100000 in
theorem m_X3_takes (lau : Launch) (G : GT) (ad : Nat → Nat) (L : LT) (Hs : HT) (P : PT) (Tr : TT) (Rg : RT) (Tx : XT) (sg nu : Nat) (ng : Bool) (sl of : Int32) (fi : Nat) (x : Nat) (hc : x ≤ 127) (h1 : sg ≤ 9) (h2 : nu ≤ 9999) (h3 : fi ≤ 9999) : MI lau G 3 yX3_takes cX3_takes 2 (some .boolean) [.ref (ad 7), .int (nI x)] (wC ad G L Hs P Tr Rg Tx (sg, nu, ng, sl, of, fi)) (fun u : Unit => wC ad G L Hs P Tr Rg Tx ((rTakes (sg, nu, ng, sl, of, fi) x).2)) (fun r u => r = bI ((rTakes (sg, nu, ng, sl, of, fi) x).1)) := by
  refine mi_of (by decide +kernel) (Nat.le_of_ble_eq_true rfl) ?_
  intro p e s m args below meth c A Q F hr hlk hQ
  refine v_st (w' := wC ad G L Hs P Tr Rg Tx (sg, nu, ng, sl, of, fi)) (pc' := 0) (st' := []) rfl rfl rfl [0, 1] (lv' := [(0, .ref (ad 7)), (1, .int (nI x))]) rfl ?_
  refine v_aload_n F dX3_takes_0 0 rfl rfl ?_
  refine v_get (v := .int (nI sg)) F inlX3 (ci := 3) rfl 0 (by decide) rfl wF_RX3_11 dX3_takes_1 7 rfl rfl ?_
  rcases (show sg = 0 ∨ sg = 1 ∨ sg = 2 ∨ sg = 3 ∨ sg = 4 ∨ sg = 5 ∨ sg = 6 ∨ sg = 7 ∨ sg = 8 ∨ sg = 9 by omega) with rfl | rfl | rfl | rfl | rfl | rfl | rfl | rfl | rfl | rfl
  · refine v_tableIn F 56 dX3_takes_4 (by decide) (by decide) rfl (by decide) ?_
    refine v_iload_n F dX3_takes_56 1 rfl rfl ?_
    refine v_bipush (v := nI 45) F dX3_takes_57 (by decide) ?_
    refine v_icmp_ne F 70 dX3_takes_59 (by decide) (fun c1 => ?_) (fun c1 => ?_)
    · replace c1 := nEn (a := x) (b := 45) (by omega) (by decide) c1
      refine v_aload_n F dX3_takes_70 0 rfl rfl ?_
      refine v_iload_n F dX3_takes_71 1 rfl rfl ?_
      refine v_iconst (v := nI 2) F dX3_takes_72 (by decide) ?_
      refine v_cVIF F cs_RX3_45 dX3_takes_73 7 (ci := 3) rfl rfl (m_X3_startsNumber lau G ad L Hs P Tr Rg Tx (0, nu, ng, sl, of, fi) x 2 (by omega)) (by decide) rfl rfl (Nat.le_of_ble_eq_true rfl) ⟨Nat.zero_le _, Nat.zero_le _⟩ (fun r2 u3 w4 => ?_)
      subst w4
      refine v_w (w' := wC ad G L Hs P Tr Rg Tx ((rTakes (0, nu, ng, sl, of, fi) x).2)) (congrArg (fun z_ => wC ad G L Hs P Tr Rg Tx z_) (show ((rStartsNumber ((0, nu, ng, sl, of, fi)) x 2).2) = ((rTakes (0, nu, ng, sl, of, fi) x).2) by simp [rTakes, *])) ?_
      exact v_zret F hr hlk hQ (nar_b ((rStartsNumber ((0, nu, ng, sl, of, fi)) x 2).1)) dX3_takes_76 (()) rfl (by simp [rTakes, bI, nI_one, nI_0, *])
    · replace c1 := nE (a := x) (b := 45) (by omega) (by decide) c1
      refine v_aload_n F dX3_takes_62 0 rfl rfl ?_
      refine v_iconst (v := nI 1) F dX3_takes_63 (by decide) ?_
      refine v_cVIF F cs_RX3_41 dX3_takes_64 7 (ci := 3) rfl rfl (m_X3_goesNegative lau G ad L Hs P Tr Rg Tx (0, nu, ng, sl, of, fi) 1 ) (by decide) rfl rfl (Nat.le_of_ble_eq_true rfl) ⟨Nat.zero_le _, Nat.zero_le _⟩ (fun r5 u6 w7 => ?_)
      subst w7
      refine v_goto F 76 dX3_takes_67 (by decide) ?_
      refine v_w (w' := wC ad G L Hs P Tr Rg Tx ((rTakes (0, nu, ng, sl, of, fi) x).2)) (congrArg (fun z_ => wC ad G L Hs P Tr Rg Tx z_) (show (rNeg ((0, nu, ng, sl, of, fi)) 1) = ((rTakes (0, nu, ng, sl, of, fi) x).2) by simp [rTakes, *])) ?_
      exact v_zret F hr hlk hQ (nar_b true) dX3_takes_76 (()) rfl (by simp [rTakes, bI, nI_one, nI_0, *])
  · refine v_tableIn F 77 dX3_takes_4 (by decide) (by decide) rfl (by decide) ?_
    refine v_aload_n F dX3_takes_77 0 rfl rfl ?_
    refine v_iload_n F dX3_takes_78 1 rfl rfl ?_
    refine v_iconst (v := nI 2) F dX3_takes_79 (by decide) ?_
    refine v_cVIF F cs_RX3_45 dX3_takes_80 7 (ci := 3) rfl rfl (m_X3_startsNumber lau G ad L Hs P Tr Rg Tx (1, nu, ng, sl, of, fi) x 2 (by omega)) (by decide) rfl rfl (Nat.le_of_ble_eq_true rfl) ⟨Nat.zero_le _, Nat.zero_le _⟩ (fun r8 u9 w10 => ?_)
    subst w10
    refine v_w (w' := wC ad G L Hs P Tr Rg Tx ((rTakes (1, nu, ng, sl, of, fi) x).2)) (congrArg (fun z_ => wC ad G L Hs P Tr Rg Tx z_) (show ((rStartsNumber ((1, nu, ng, sl, of, fi)) x 2).2) = ((rTakes (1, nu, ng, sl, of, fi) x).2) by simp [rTakes, *])) ?_
    exact v_zret F hr hlk hQ (nar_b ((rStartsNumber ((1, nu, ng, sl, of, fi)) x 2).1)) dX3_takes_83 (()) rfl (by simp [rTakes, bI, nI_one, nI_0, *])
  · refine v_tableIn F 84 dX3_takes_4 (by decide) (by decide) rfl (by decide) ?_
    refine v_iload_n F dX3_takes_84 1 rfl rfl ?_
    refine v_bipush (v := nI 120) F dX3_takes_85 (by decide) ?_
    refine v_icmp_ne F 97 dX3_takes_87 (by decide) (fun c11 => ?_) (fun c11 => ?_)
    · replace c11 := nEn (a := x) (b := 120) (by omega) (by decide) c11
      refine v_aload_n F dX3_takes_97 0 rfl rfl ?_
      refine v_iload_n F dX3_takes_98 1 rfl rfl ?_
      refine v_bipush (v := nI 99) F dX3_takes_99 (by decide) ?_
      refine v_cVIF F cs_RX3_53 dX3_takes_101 7 (ci := 3) rfl rfl (m_X3_extendsNumber lau G ad L Hs P Tr Rg Tx (2, nu, ng, sl, of, fi) x 99 (by omega) h2 (by omega)) (by decide) rfl rfl (Nat.le_of_ble_eq_true rfl) ⟨Nat.zero_le _, Nat.zero_le _⟩ (fun r12 u13 w14 => ?_)
      subst w14
      refine v_w (w' := wC ad G L Hs P Tr Rg Tx ((rTakes (2, nu, ng, sl, of, fi) x).2)) (congrArg (fun z_ => wC ad G L Hs P Tr Rg Tx z_) (show ((rExtends ((2, nu, ng, sl, of, fi)) x 99).2) = ((rTakes (2, nu, ng, sl, of, fi) x).2) by simp [rTakes, *])) ?_
      exact v_zret F hr hlk hQ (nar_b ((rExtends ((2, nu, ng, sl, of, fi)) x 99).1)) dX3_takes_104 (()) rfl (by simp [rTakes, bI, nI_one, nI_0, *])
    · replace c11 := nE (a := x) (b := 120) (by omega) (by decide) c11
      refine v_aload_n F dX3_takes_90 0 rfl rfl ?_
      refine v_cVIF F cs_RX3_49 dX3_takes_91 7 (ci := 3) rfl rfl (m_X3_endsSlope lau G ad L Hs P Tr Rg Tx (2, nu, ng, sl, of, fi) ) (by decide) rfl rfl (Nat.le_of_ble_eq_true rfl) ⟨Nat.zero_le _, Nat.zero_le _⟩ (fun r15 u16 w17 => ?_)
      subst w17
      refine v_goto F 104 dX3_takes_94 (by decide) ?_
      refine v_w (w' := wC ad G L Hs P Tr Rg Tx ((rTakes (2, nu, ng, sl, of, fi) x).2)) (congrArg (fun z_ => wC ad G L Hs P Tr Rg Tx z_) (show (rEndsSlope ((2, nu, ng, sl, of, fi))) = ((rTakes (2, nu, ng, sl, of, fi) x).2) by simp [rTakes, *])) ?_
      exact v_zret F hr hlk hQ (nar_b true) dX3_takes_104 (()) rfl (by simp [rTakes, bI, nI_one, nI_0, *])
  · refine v_tableIn F 105 dX3_takes_4 (by decide) (by decide) rfl (by decide) ?_
    refine v_aload_n F dX3_takes_105 0 rfl rfl ?_
    refine v_iload_n F dX3_takes_106 1 rfl rfl ?_
    refine v_cVIF F cs_RX3_56 dX3_takes_107 7 (ci := 3) rfl rfl (m_X3_takesSign lau G ad L Hs P Tr Rg Tx (3, nu, ng, sl, of, fi) x (by omega)) (by decide) rfl rfl (Nat.le_of_ble_eq_true rfl) ⟨Nat.zero_le _, Nat.zero_le _⟩ (fun r18 u19 w20 => ?_)
    subst w20
    refine v_w (w' := wC ad G L Hs P Tr Rg Tx ((rTakes (3, nu, ng, sl, of, fi) x).2)) (congrArg (fun z_ => wC ad G L Hs P Tr Rg Tx z_) (show ((rSign ((3, nu, ng, sl, of, fi)) x).2) = ((rTakes (3, nu, ng, sl, of, fi) x).2) by simp [rTakes, *])) ?_
    exact v_zret F hr hlk hQ (nar_b ((rSign ((3, nu, ng, sl, of, fi)) x).1)) dX3_takes_110 (()) rfl (by simp [rTakes, bI, nI_one, nI_0, *])
  · refine v_tableIn F 111 dX3_takes_4 (by decide) (by decide) rfl (by decide) ?_
    refine v_aload_n F dX3_takes_111 0 rfl rfl ?_
    refine v_iload_n F dX3_takes_112 1 rfl rfl ?_
    refine v_iconst (v := nI 5) F dX3_takes_113 (by decide) ?_
    refine v_cVIF F cs_RX3_45 dX3_takes_114 7 (ci := 3) rfl rfl (m_X3_startsNumber lau G ad L Hs P Tr Rg Tx (4, nu, ng, sl, of, fi) x 5 (by omega)) (by decide) rfl rfl (Nat.le_of_ble_eq_true rfl) ⟨Nat.zero_le _, Nat.zero_le _⟩ (fun r21 u22 w23 => ?_)
    subst w23
    refine v_w (w' := wC ad G L Hs P Tr Rg Tx ((rTakes (4, nu, ng, sl, of, fi) x).2)) (congrArg (fun z_ => wC ad G L Hs P Tr Rg Tx z_) (show ((rStartsNumber ((4, nu, ng, sl, of, fi)) x 5).2) = ((rTakes (4, nu, ng, sl, of, fi) x).2) by simp [rTakes, *])) ?_
    exact v_zret F hr hlk hQ (nar_b ((rStartsNumber ((4, nu, ng, sl, of, fi)) x 5).1)) dX3_takes_117 (()) rfl (by simp [rTakes, bI, nI_one, nI_0, *])
  · refine v_tableIn F 118 dX3_takes_4 (by decide) (by decide) rfl (by decide) ?_
    refine v_aload_n F dX3_takes_118 0 rfl rfl ?_
    refine v_iload_n F dX3_takes_119 1 rfl rfl ?_
    refine v_cVIF F cs_RX3_59 dX3_takes_120 7 (ci := 3) rfl rfl (m_X3_takesInOffset lau G ad L Hs P Tr Rg Tx (5, nu, ng, sl, of, fi) x (by omega) h2) (by decide) rfl rfl (Nat.le_of_ble_eq_true rfl) ⟨Nat.zero_le _, Nat.zero_le _⟩ (fun r24 u25 w26 => ?_)
    subst w26
    refine v_w (w' := wC ad G L Hs P Tr Rg Tx ((rTakes (5, nu, ng, sl, of, fi) x).2)) (congrArg (fun z_ => wC ad G L Hs P Tr Rg Tx z_) (show ((rOff ((5, nu, ng, sl, of, fi)) x).2) = ((rTakes (5, nu, ng, sl, of, fi) x).2) by simp [rTakes, *])) ?_
    exact v_zret F hr hlk hQ (nar_b ((rOff ((5, nu, ng, sl, of, fi)) x).1)) dX3_takes_123 (()) rfl (by simp [rTakes, bI, nI_one, nI_0, *])
  · refine v_tableIn F 124 dX3_takes_4 (by decide) (by decide) rfl (by decide) ?_
    refine v_aload_n F dX3_takes_124 0 rfl rfl ?_
    refine v_iload_n F dX3_takes_125 1 rfl rfl ?_
    refine v_bipush (v := nI 7) F dX3_takes_126 (by decide) ?_
    refine v_cVIF F cs_RX3_45 dX3_takes_128 7 (ci := 3) rfl rfl (m_X3_startsNumber lau G ad L Hs P Tr Rg Tx (6, nu, ng, sl, of, fi) x 7 (by omega)) (by decide) rfl rfl (Nat.le_of_ble_eq_true rfl) ⟨Nat.zero_le _, Nat.zero_le _⟩ (fun r27 u28 w29 => ?_)
    subst w29
    refine v_w (w' := wC ad G L Hs P Tr Rg Tx ((rTakes (6, nu, ng, sl, of, fi) x).2)) (congrArg (fun z_ => wC ad G L Hs P Tr Rg Tx z_) (show ((rStartsNumber ((6, nu, ng, sl, of, fi)) x 7).2) = ((rTakes (6, nu, ng, sl, of, fi) x).2) by simp [rTakes, *])) ?_
    exact v_zret F hr hlk hQ (nar_b ((rStartsNumber ((6, nu, ng, sl, of, fi)) x 7).1)) dX3_takes_131 (()) rfl (by simp [rTakes, bI, nI_one, nI_0, *])
  · refine v_tableIn F 132 dX3_takes_4 (by decide) (by decide) rfl (by decide) ?_
    refine v_iload_n F dX3_takes_132 1 rfl rfl ?_
    refine v_bipush (v := nI 45) F dX3_takes_133 (by decide) ?_
    refine v_icmp_ne F 145 dX3_takes_135 (by decide) (fun c30 => ?_) (fun c30 => ?_)
    · replace c30 := nEn (a := x) (b := 45) (by omega) (by decide) c30
      refine v_aload_n F dX3_takes_145 0 rfl rfl ?_
      refine v_iload_n F dX3_takes_146 1 rfl rfl ?_
      refine v_bipush (v := nI 99) F dX3_takes_147 (by decide) ?_
      refine v_cVIF F cs_RX3_53 dX3_takes_149 7 (ci := 3) rfl rfl (m_X3_extendsNumber lau G ad L Hs P Tr Rg Tx (7, nu, ng, sl, of, fi) x 99 (by omega) h2 (by omega)) (by decide) rfl rfl (Nat.le_of_ble_eq_true rfl) ⟨Nat.zero_le _, Nat.zero_le _⟩ (fun r31 u32 w33 => ?_)
      subst w33
      refine v_w (w' := wC ad G L Hs P Tr Rg Tx ((rTakes (7, nu, ng, sl, of, fi) x).2)) (congrArg (fun z_ => wC ad G L Hs P Tr Rg Tx z_) (show ((rExtends ((7, nu, ng, sl, of, fi)) x 99).2) = ((rTakes (7, nu, ng, sl, of, fi) x).2) by simp [rTakes, *])) ?_
      exact v_zret F hr hlk hQ (nar_b ((rExtends ((7, nu, ng, sl, of, fi)) x 99).1)) dX3_takes_152 (()) rfl (by simp [rTakes, bI, nI_one, nI_0, *])
    · replace c30 := nE (a := x) (b := 45) (by omega) (by decide) c30
      refine v_aload_n F dX3_takes_138 0 rfl rfl ?_
      refine v_cVIF F cs_RX3_62 dX3_takes_139 7 (ci := 3) rfl rfl (m_X3_endsFirstMoment lau G ad L Hs P Tr Rg Tx (7, nu, ng, sl, of, fi) ) (by decide) rfl rfl (Nat.le_of_ble_eq_true rfl) ⟨Nat.zero_le _, Nat.zero_le _⟩ (fun r34 u35 w36 => ?_)
      subst w36
      refine v_goto F 152 dX3_takes_142 (by decide) ?_
      refine v_w (w' := wC ad G L Hs P Tr Rg Tx ((rTakes (7, nu, ng, sl, of, fi) x).2)) (congrArg (fun z_ => wC ad G L Hs P Tr Rg Tx z_) (show (rEndsFirst ((7, nu, ng, sl, of, fi))) = ((rTakes (7, nu, ng, sl, of, fi) x).2) by simp [rTakes, *])) ?_
      exact v_zret F hr hlk hQ (nar_b true) dX3_takes_152 (()) rfl (by simp [rTakes, bI, nI_one, nI_0, *])
  · refine v_tableIn F 153 dX3_takes_4 (by decide) (by decide) rfl (by decide) ?_
    refine v_aload_n F dX3_takes_153 0 rfl rfl ?_
    refine v_iload_n F dX3_takes_154 1 rfl rfl ?_
    refine v_bipush (v := nI 9) F dX3_takes_155 (by decide) ?_
    refine v_cVIF F cs_RX3_45 dX3_takes_157 7 (ci := 3) rfl rfl (m_X3_startsNumber lau G ad L Hs P Tr Rg Tx (8, nu, ng, sl, of, fi) x 9 (by omega)) (by decide) rfl rfl (Nat.le_of_ble_eq_true rfl) ⟨Nat.zero_le _, Nat.zero_le _⟩ (fun r37 u38 w39 => ?_)
    subst w39
    refine v_if_eq F 174 dX3_takes_160 (by decide) (fun c40 => ?_) (fun c40 => ?_)
    · replace c40 := bI_f c40
      refine v_iconst (v := nI 0) F dX3_takes_174 (by decide) ?_
      refine v_w (w' := wC ad G L Hs P Tr Rg Tx ((rTakes (8, nu, ng, sl, of, fi) x).2)) (congrArg (fun z_ => wC ad G L Hs P Tr Rg Tx z_) (show ((rStartsNumber ((8, nu, ng, sl, of, fi)) x 9).2) = ((rTakes (8, nu, ng, sl, of, fi) x).2) by simp [rTakes, *])) ?_
      exact v_zret F hr hlk hQ rfl dX3_takes_175 (()) rfl (by simp [rTakes, bI, nI_one, nI_0, *])
    · replace c40 := bI_t c40
      refine v_aload_n F dX3_takes_163 0 rfl rfl ?_
      refine v_cVIF F cs_RX3_65 dX3_takes_164 7 (ci := 3) rfl rfl (m_X3_mayBecomeLast lau G ad L Hs P Tr Rg Tx ((rStartsNumber ((8, nu, ng, sl, of, fi)) x 9).2) ((rStarts_rng _ x 9 h2 h3 hc).1) ((rStarts_rng _ x 9 h2 h3 hc).2)) (by decide) rfl rfl (Nat.le_of_ble_eq_true rfl) ⟨Nat.zero_le _, Nat.zero_le _⟩ (fun r41 u42 w43 => ?_)
      subst w43
      refine v_if_eq F 174 dX3_takes_167 (by decide) (fun c44 => ?_) (fun c44 => ?_)
      · replace c44 := bI_f c44
        refine v_iconst (v := nI 0) F dX3_takes_174 (by decide) ?_
        refine v_w (w' := wC ad G L Hs P Tr Rg Tx ((rTakes (8, nu, ng, sl, of, fi) x).2)) (congrArg (fun z_ => wC ad G L Hs P Tr Rg Tx z_) (show ((rStartsNumber ((8, nu, ng, sl, of, fi)) x 9).2) = ((rTakes (8, nu, ng, sl, of, fi) x).2) by simp [rTakes, *])) ?_
        exact v_zret F hr hlk hQ rfl dX3_takes_175 (()) rfl (by simp [rTakes, bI, nI_one, nI_0, *])
      · replace c44 := bI_t c44
        refine v_iconst (v := nI 1) F dX3_takes_170 (by decide) ?_
        refine v_goto F 175 dX3_takes_171 (by decide) ?_
        refine v_w (w' := wC ad G L Hs P Tr Rg Tx ((rTakes (8, nu, ng, sl, of, fi) x).2)) (congrArg (fun z_ => wC ad G L Hs P Tr Rg Tx z_) (show ((rStartsNumber ((8, nu, ng, sl, of, fi)) x 9).2) = ((rTakes (8, nu, ng, sl, of, fi) x).2) by simp [rTakes, *])) ?_
        exact v_zret F hr hlk hQ rfl dX3_takes_175 (()) rfl (by simp [rTakes, bI, nI_one, nI_0, *])
  · refine v_tableOut F 176 dX3_takes_4 (by decide) (by decide) ?_
    refine v_aload_n F dX3_takes_176 0 rfl rfl ?_
    refine v_iload_n F dX3_takes_177 1 rfl rfl ?_
    refine v_cVIF F cs_RX3_68 dX3_takes_178 7 (ci := 3) rfl rfl (m_X3_takesInLast lau G ad L Hs P Tr Rg Tx (9, nu, ng, sl, of, fi) x (by omega) h1 h2 h3) (by decide) rfl rfl (Nat.le_of_ble_eq_true rfl) ⟨Nat.zero_le _, Nat.zero_le _⟩ (fun r45 u46 w47 => ?_)
    subst w47
    refine v_w (w' := wC ad G L Hs P Tr Rg Tx ((rTakes (9, nu, ng, sl, of, fi) x).2)) (congrArg (fun z_ => wC ad G L Hs P Tr Rg Tx z_) (show ((rLast ((9, nu, ng, sl, of, fi)) x).2) = ((rTakes (9, nu, ng, sl, of, fi) x).2) by simp [rTakes, *])) ?_
    exact v_zret F hr hlk hQ (nar_b ((rLast ((9, nu, ng, sl, of, fi)) x).1)) dX3_takes_181 (()) rfl (by simp [rTakes, bI, nI_one, nI_0, *])
