set_option maxHeartbeats 4000000 in
set_option maxRecDepth 100000 in
theorem m_X0_size (lau : Launch) (G : GT) (ad : Nat → Nat) (L : LT) (S : Nat → Int32) (h : Nat) (P : PT) (Tr : TT) (Rg : RT) (Tx : XT) (Rd : DT) : MI lau G 0 yX0_size cX0_size 1 (some .int) [.ref (ad 2)] (wC ad G L (S, h) P Tr Rg Tx Rd) (fun u : Unit => wC ad G L (S, h) P Tr Rg Tx Rd) (fun r u => r = nI h) := by
  refine mi_of (by decide +kernel) (Nat.le_of_ble_eq_true rfl) ?_
  intro p e s m args below meth c A Q F hr hlk hQ
  refine v_st (w' := wC ad G L (S, h) P Tr Rg Tx Rd) (pc' := 0) (st' := []) rfl rfl rfl [0] (lv' := [(0, .ref (ad 2))]) rfl ?_
  refine v_aload_n F dX0_size_0 0 rfl rfl ?_
  refine v_get (v := .int (nI h)) F inlX0 (ci := 0) rfl 1 (by decide) rfl wF_RX0_17 dX0_size_1 2 rfl rfl ?_
  exact v_iret F hr hlk hQ dX0_size_4 (()) rfl (by first | rfl | (simp; done))
theorem cs_RX0_27 : CSV RX0 27 RX1 yX1_saveTo cX1_saveTo 3 none 2 := ⟨wC_yX1_saveTo, wM_RX0_27, wIm_yX1_saveTo, wSe_yX1_saveTo, wI_RX1, by decide +kernel, by decide⟩
set_option maxHeartbeats 4000000 in
set_option maxRecDepth 100000 in
theorem m_X0_save (lau : Launch) (G : GT) (ad : Nat → Nat) (T : Nat → Int32) (n mo ver : Nat) (S : Nat → Int32) (h : Nat) (P : PT) (Tr : TT) (Rg : RT) (Tx : XT) (Rd : DT) (hh : h ≤ 6) : MV lau G 3 yX0_save cX0_save 2 none [.ref (ad 2), .ref (ad 1)] (wC ad G (T, n, mo, ver) (S, h) P Tr Rg Tx Rd) (fun u : Unit => wC ad G (T, n, mo, ver) (pSave S h T n mo, pSaveH h) P Tr Rg Tx Rd) (fun u => True) := by
  refine mv_of (by decide +kernel) (Nat.le_of_ble_eq_true rfl) ?_
  intro p e s m args below meth c A Q F hr hlk hQ
  refine v_st (w' := wC ad G (T, n, mo, ver) (S, h) P Tr Rg Tx Rd) (pc' := 0) (st' := []) rfl rfl rfl [0, 1] (lv' := [(0, .ref (ad 2)), (1, .ref (ad 1))]) rfl ?_
  refine v_aload_n F dX0_save_0 0 rfl rfl ?_
  refine v_get (v := .int (nI h)) F inlX0 (ci := 0) rfl 1 (by decide) rfl wF_RX0_17 dX0_save_1 2 rfl rfl ?_
  refine v_bipush (v := nI 6) F dX0_save_4 (by decide) ?_
  refine v_icmp_lt F 36 dX0_save_6 (by decide) (fun c1 => ?_) (fun c1 => ?_)
  · replace c1 := nL (a := h) (b := 6) (by omega) (by decide) c1
    refine v_aload_n F dX0_save_36 1 rfl rfl ?_
    refine v_aload_n F dX0_save_37 0 rfl rfl ?_
    refine v_get (v := .ref (ad 9)) F inlX0 (ci := 0) rfl 0 (by decide) rfl wF_RX0_11 dX0_save_38 2 rfl rfl ?_
    refine v_aload_n F dX0_save_41 0 rfl rfl ?_
    refine v_get (v := .int (nI h)) F inlX0 (ci := 0) rfl 1 (by decide) rfl wF_RX0_17 dX0_save_42 2 rfl rfl ?_
    refine v_bipush (v := nI 122) F dX0_save_45 (by decide) ?_
    refine v_imul F dX0_save_47 ?_
    refine v_topi (nI (h * 122)) (pk_mul h 122) ?_
    refine v_cVVF F cs_RX0_27 dX0_save_48 1 (ci := 1) rfl rfl (m_X1_saveTo lau G ad T n mo ver S h P Tr Rg Tx Rd (h * 122) (by omega)) (by decide) rfl rfl (Nat.le_of_ble_eq_true rfl) ⟨Nat.zero_le _, Nat.zero_le _⟩ (fun u3 w4 => ?_)
    refine v_aload_n F dX0_save_51 0 rfl rfl ?_
    refine v_dup F dX0_save_52 rfl ?_
    refine v_get (v := .int (nI h)) F inlX0 (ci := 0) rfl 1 (by decide) rfl wF_RX0_17 dX0_save_53 2 rfl rfl ?_
    refine v_iconst (v := nI 1) F dX0_save_56 (by decide) ?_
    refine v_iadd F dX0_save_57 ?_
    refine v_topi (nI (h + 1)) (nI_add h 1) ?_
    refine v_put F inlX0 (ci := 0) rfl tyX0 tyX0_ok nmX0 1 (by decide) rfl rfl wF_RX0_17 dX0_save_58 (ty := .int) (by decide +kernel) rfl rfl 2 rfl (Nat.le_of_ble_eq_true rfl) (wC ad G (T, n, mo, ver) (va_cpy T (upd (upd S (h * 122) (nI mo)) ((h * 122) + 1) (nI n)) 0 ((h * 122) + 2) 120, h + 1) P Tr Rg Tx Rd) rfl ?_
    refine v_w (w' := wC ad G (T, n, mo, ver) (pSave S h T n mo, pSaveH h) P Tr Rg Tx Rd) (congrArg (fun z_ => wC ad G (T, n, mo, ver) z_ P Tr Rg Tx Rd) (show (va_cpy T (upd (upd S (h * 122) (nI mo)) ((h * 122) + 1) (nI n)) 0 ((h * 122) + 2) 120, h + 1) = (pSave S h T n mo, pSaveH h) by simp [pSave, pSaveH, pPut, *])) ?_
    exact v_vret F hr hlk hQ dX0_save_61 (()) rfl (by trivial)
  · replace c1 := nLn (a := h) (b := 6) (by omega) (by decide) c1
    have hh6 : ¬ h < 6 := Nat.not_lt.mpr c1
    refine v_aload_n F dX0_save_9 0 rfl rfl ?_
    refine v_get (v := .ref (ad 9)) F inlX0 (ci := 0) rfl 0 (by decide) rfl wF_RX0_11 dX0_save_10 2 rfl rfl ?_
    refine v_bipush (v := nI 122) F dX0_save_13 (by decide) ?_
    refine v_aload_n F dX0_save_15 0 rfl rfl ?_
    refine v_get (v := .ref (ad 9)) F inlX0 (ci := 0) rfl 0 (by decide) rfl wF_RX0_11 dX0_save_16 2 rfl rfl ?_
    refine v_iconst (v := nI 0) F dX0_save_19 (by decide) ?_
    refine v_aload_n F dX0_save_20 0 rfl rfl ?_
    refine v_get (v := .ref (ad 9)) F inlX0 (ci := 0) rfl 0 (by decide) rfl wF_RX0_11 dX0_save_21 2 rfl rfl ?_
    refine v_alen F dX0_save_24 9 rfl ?_
    refine v_bipush (v := nI 122) F dX0_save_25 (by decide) ?_
    refine v_isub F dX0_save_27 ?_
    refine v_topi (nI 610) (by decide) ?_
    refine v_copyN F wM_RX0_21 wNa_arraycopyName wSt_arraycopyName wI_RJ10 dX0_save_28 9 9 rfl rfl 122 0 610 rfl rfl rfl (by omega) (by omega) (by decide) (by decide) (by have := F.2.2.2.2.2.2.2.1; simp at this ⊢) (by have := F.2.2.2.2.2.2.2.2; simp [nativeFrameWords, Value.category] at this ⊢) (wC ad G (T, n, mo, ver) (va_cpy S S 122 0 610, h) P Tr Rg Tx Rd) rfl ?_
    refine v_aload_n F dX0_save_31 0 rfl rfl ?_
    refine v_iconst (v := nI 5) F dX0_save_32 (by decide) ?_
    refine v_put F inlX0 (ci := 0) rfl tyX0 tyX0_ok nmX0 1 (by decide) rfl rfl wF_RX0_17 dX0_save_33 (ty := .int) (by decide +kernel) rfl rfl 2 rfl (Nat.le_of_ble_eq_true rfl) (wC ad G (T, n, mo, ver) (va_cpy S S 122 0 610, 5) P Tr Rg Tx Rd) rfl ?_
    refine v_aload_n F dX0_save_36 1 rfl rfl ?_
    refine v_aload_n F dX0_save_37 0 rfl rfl ?_
    refine v_get (v := .ref (ad 9)) F inlX0 (ci := 0) rfl 0 (by decide) rfl wF_RX0_11 dX0_save_38 2 rfl rfl ?_
    refine v_aload_n F dX0_save_41 0 rfl rfl ?_
    refine v_get (v := .int (nI 5)) F inlX0 (ci := 0) rfl 1 (by decide) rfl wF_RX0_17 dX0_save_42 2 rfl rfl ?_
    refine v_bipush (v := nI 122) F dX0_save_45 (by decide) ?_
    refine v_imul F dX0_save_47 ?_
    refine v_topi (nI 610) (pk_mul 5 122) ?_
    refine v_cVVF F cs_RX0_27 dX0_save_48 1 (ci := 1) rfl rfl (m_X1_saveTo lau G ad T n mo ver (va_cpy S S 122 0 610) 5 P Tr Rg Tx Rd 610 (by omega)) (by decide) rfl rfl (Nat.le_of_ble_eq_true rfl) ⟨Nat.zero_le _, Nat.zero_le _⟩ (fun u6 w7 => ?_)
    refine v_aload_n F dX0_save_51 0 rfl rfl ?_
    refine v_dup F dX0_save_52 rfl ?_
    refine v_get (v := .int (nI 5)) F inlX0 (ci := 0) rfl 1 (by decide) rfl wF_RX0_17 dX0_save_53 2 rfl rfl ?_
    refine v_iconst (v := nI 1) F dX0_save_56 (by decide) ?_
    refine v_iadd F dX0_save_57 ?_
    refine v_topi (nI 6) (nI_add 5 1) ?_
    refine v_put F inlX0 (ci := 0) rfl tyX0 tyX0_ok nmX0 1 (by decide) rfl rfl wF_RX0_17 dX0_save_58 (ty := .int) (by decide +kernel) rfl rfl 2 rfl (Nat.le_of_ble_eq_true rfl) (wC ad G (T, n, mo, ver) (va_cpy T (upd (upd (va_cpy S S 122 0 610) 610 (nI mo)) (610 + 1) (nI n)) 0 (610 + 2) 120, 6) P Tr Rg Tx Rd) rfl ?_
    refine v_w (w' := wC ad G (T, n, mo, ver) (pSave S h T n mo, pSaveH h) P Tr Rg Tx Rd) (congrArg (fun z_ => wC ad G (T, n, mo, ver) z_ P Tr Rg Tx Rd) (show (va_cpy T (upd (upd (va_cpy S S 122 0 610) 610 (nI mo)) (610 + 1) (nI n)) 0 (610 + 2) 120, 6) = (pSave S h T n mo, pSaveH h) by simp [pSave, pSaveH, pPut, *])) ?_
    exact v_vret F hr hlk hQ dX0_save_61 (()) rfl (by trivial)
theorem cs_RX0_31 : CSV RX0 31 RX1 yX1_restoreFrom cX1_restoreFrom 3 none 2 := ⟨wC_yX1_restoreFrom, wM_RX0_31, wIm_yX1_restoreFrom, wSe_yX1_restoreFrom, wI_RX1, by decide +kernel, by decide⟩
set_option maxHeartbeats 4000000 in
set_option maxRecDepth 100000 in
theorem m_X0_restore (lau : Launch) (G : GT) (ad : Nat → Nat) (T : Nat → Int32) (n mo ver : Nat) (S : Nat → Int32) (h : Nat) (P : PT) (Tr : TT) (Rg : RT) (Tx : XT) (Rd : DT) (n' mo' : Nat) (h0 : 0 < h) (hh : h ≤ 6) (hn' : S ((h - 1) * 122 + 1) = nI n') (hmo' : S ((h - 1) * 122) = nI mo') : MV lau G 3 yX0_restore cX0_restore 2 none [.ref (ad 2), .ref (ad 1)] (wC ad G (T, n, mo, ver) (S, h) P Tr Rg Tx Rd) (fun u : Unit => wC ad G (va_cpy S T ((h - 1) * 122 + 2) 0 120, n', mo', ver + 1) (S, h - 1) P Tr Rg Tx Rd) (fun u => True) := by
  refine mv_of (by decide +kernel) (Nat.le_of_ble_eq_true rfl) ?_
  intro p e s m args below meth c A Q F hr hlk hQ
  refine v_st (w' := wC ad G (T, n, mo, ver) (S, h) P Tr Rg Tx Rd) (pc' := 0) (st' := []) rfl rfl rfl [0, 1] (lv' := [(0, .ref (ad 2)), (1, .ref (ad 1))]) rfl ?_
  refine v_aload_n F dX0_restore_0 0 rfl rfl ?_
  refine v_get (v := .int (nI h)) F inlX0 (ci := 0) rfl 1 (by decide) rfl wF_RX0_17 dX0_restore_1 2 rfl rfl ?_
  refine v_if_le F 32 dX0_restore_4 (by decide) (fun c1 => ?_) (fun c1 => ?_)
  · replace c1 := nK (a := h) (b := 0) (by omega) (by decide) c1
    omega
  · replace c1 := nKn (a := h) (b := 0) (by omega) (by decide) c1
    refine v_aload_n F dX0_restore_7 0 rfl rfl ?_
    refine v_dup F dX0_restore_8 rfl ?_
    refine v_get (v := .int (nI h)) F inlX0 (ci := 0) rfl 1 (by decide) rfl wF_RX0_17 dX0_restore_9 2 rfl rfl ?_
    refine v_iconst (v := nI 1) F dX0_restore_12 (by decide) ?_
    refine v_isub F dX0_restore_13 ?_
    refine v_topi (nI (h - 1)) (pk_sub (by omega)) ?_
    refine v_put F inlX0 (ci := 0) rfl tyX0 tyX0_ok nmX0 1 (by decide) rfl rfl wF_RX0_17 dX0_restore_14 (ty := .int) (by decide +kernel) rfl rfl 2 rfl (Nat.le_of_ble_eq_true rfl) (wC ad G (T, n, mo, ver) (S, h - 1) P Tr Rg Tx Rd) rfl ?_
    refine v_aload_n F dX0_restore_17 1 rfl rfl ?_
    refine v_aload_n F dX0_restore_18 0 rfl rfl ?_
    refine v_get (v := .ref (ad 9)) F inlX0 (ci := 0) rfl 0 (by decide) rfl wF_RX0_11 dX0_restore_19 2 rfl rfl ?_
    refine v_aload_n F dX0_restore_22 0 rfl rfl ?_
    refine v_get (v := .int (nI (h - 1))) F inlX0 (ci := 0) rfl 1 (by decide) rfl wF_RX0_17 dX0_restore_23 2 rfl rfl ?_
    refine v_bipush (v := nI 122) F dX0_restore_26 (by decide) ?_
    refine v_imul F dX0_restore_28 ?_
    refine v_topi (nI ((h - 1) * 122)) (pk_mul (h - 1) 122) ?_
    refine v_cVVF F cs_RX0_31 dX0_restore_29 1 (ci := 1) rfl rfl (m_X1_restoreFrom lau G ad T n mo ver S (h - 1) P Tr Rg Tx Rd ((h - 1) * 122) n' mo' (by omega) hn' hmo') (by decide) rfl rfl (Nat.le_of_ble_eq_true rfl) ⟨Nat.zero_le _, Nat.zero_le _⟩ (fun u3 w4 => ?_)
    refine v_w (w' := wC ad G (va_cpy S T ((h - 1) * 122 + 2) 0 120, n', mo', ver + 1) (S, h - 1) P Tr Rg Tx Rd) (congrArg (fun z_ => wC ad G z_ (S, h - 1) P Tr Rg Tx Rd) (show (va_cpy S T (((h - 1) * 122) + 2) 0 120, n', mo', ver + 1) = (va_cpy S T ((h - 1) * 122 + 2) 0 120, n', mo', ver + 1) by rfl)) ?_
    exact v_vret F hr hlk hQ dX0_restore_32 (()) rfl (by trivial)
