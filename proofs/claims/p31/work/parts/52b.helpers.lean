/-! the law's helpers: a number below another one, a cell of the script, calls that catch -/
set_option maxHeartbeats 1000000 in
set_option maxRecDepth 100000 in
theorem m_L_low (lau : Launch) (G : GT) (v : Int32) (m_ : Nat) (hm : 0 < m_) (hm2 : m_ < 2147483648) : MI lau G 0 yL_low cL_low 2 (some .int) [.int v, .int (nI m_)] ([]) (fun u : Unit => []) (fun r u => ∃ j : Nat, j < m_ ∧ r = nI j) := by
  refine mi_of (by decide +kernel) (Nat.le_of_ble_eq_true rfl) ?_
  intro p e s m args below meth c A Q F hr hlk hQ
  refine v_st (w' := []) (pc' := 0) (st' := []) rfl rfl rfl [0, 1] (lv' := [(0, .int v), (1, .int (nI m_))]) rfl ?_
  refine v_iload_n F dL_low_0 0 rfl rfl ?_
  refine v_ldc (v := (2147483647)) F wK_RL_7 dL_low_1 ?_
  refine v_iand F dL_low_3 ?_
  obtain ⟨j, hj, ej⟩ := pk_andE v (m := 2147483647) 31 (by decide)
  refine v_topi (nI j) ej ?_
  refine v_iload_n F dL_low_4 1 rfl rfl ?_
  refine v_irem F dL_low_5 (nI_ne0 hm hm2) ?_
  refine v_topi (nI (j % m_)) (pk_rem hj hm hm2) ?_
  exact v_iret F hr hlk hQ dL_low_6 (()) rfl ⟨_, Nat.mod_lt _ hm, rfl⟩
set_option maxHeartbeats 1000000 in
set_option maxRecDepth 100000 in
theorem z_L_cell (lau : Launch) (G : GT) {sb L : Nat} {xs : Nat → Int32} (k : Nat) (hk : k < 2147483648) (hL : L < 2147483648) : HZ lau G 0 yL_cell cL_cell 2 (some .int) [.ref sb, .int (nI k)] ([]) (fun u : Unit => []) (fun r u => True) 0 0 sb L xs := by
  refine hz_of (by decide +kernel) (Nat.le_of_ble_eq_true rfl) ?_
  intro p e s m args below meth c A Q F hr hlk hQ hSF hSH hNC hX hbl hbA
  refine v_st (w' := []) (pc' := 0) (st' := []) rfl rfl rfl [0, 1] (lv' := [(0, .ref sb), (1, .int (nI k))]) rfl ?_
  refine v_iload_n F dL_cell_0 1 rfl rfl ?_
  refine v_aload_n F dL_cell_1 0 rfl rfl ?_
  refine v_slen F hX hbl hbA dL_cell_2 ?_
  refine v_icmp_ge F 12 dL_cell_3 (by decide) (fun h => ?_) (fun h => ?_)
  · refine v_ldc (v := (40503)) F wK_RL_8 dL_cell_12 ?_
    refine v_iload_n F dL_cell_14 1 rfl rfl ?_
    refine v_imul F dL_cell_15 ?_
    refine v_sipush (v := nI 977) F dL_cell_16 (by decide) ?_
    refine v_iadd F dL_cell_19 ?_
    exact v_iret F hr hlk hQ dL_cell_20 (()) rfl trivial
  · replace h := nGn (a := k) (b := L) hk hL h
    refine v_aload_n F dL_cell_6 0 rfl rfl ?_
    refine v_iload_n F dL_cell_7 1 rfl rfl ?_
    refine v_sld F hX hbl hbA k rfl h hL dL_cell_8 ?_
    refine v_goto F 20 dL_cell_9 (by decide) ?_
    exact v_iret F hr hlk hQ dL_cell_20 (()) rfl trivial
theorem wCW_value : Cond.codeWith yL_value cL_value 3 (some .int) [(0, 5, 6, 33)] ∈ GW := tk2 (i := 201) (by decide +kernel) (by decide +kernel)
theorem ch_value : CSH RL 59 yL_value cL_value 3 [(0, 5, 6, 33)] 2 := ⟨wCW_value, wM_RL_59, wSt_yL_value, wI_RL, by decide +kernel, by decide⟩
theorem cs_RL_45 : CSV RL 45 RX7 yX7_value cX7_value 3 (some .int) 1 := ⟨wC_yX7_value, wM_RL_45, wIm_yX7_value, wSe_yX7_value, wI_RX7, by decide +kernel, by decide⟩
set_option maxHeartbeats 1000000 in
set_option maxRecDepth 100000 in
theorem h_value (lau : Launch) (G : GT) (ad : Nat → Nat) (T : Nat → Int32) (n mo ver : Nat) (S : Nat → Int32) (h : Nat) (P : PT) (Tr : TT) (Rg : RT) (co : Nat → Int32) (len : Nat) (Rd : DT) (x : Nat) (hx : x < 64) (hn : n ≤ 20) (hT : TOK T n) (hP : PCI T n mo ver P) (hC : TCI T n mo ver Tr) (hR : RCI T n ver Rg) (hst : lau.stackTraces = false) : HM lau G 17 yL_value cL_value 3 [(0, 5, 6, 33)] [.ref (ad 0), .int (nI x)] (wC ad G (T, n, mo, ver) (S, h) P Tr Rg (co, len) Rd) (fun u : PT × TT × RT => wC ad G (T, n, mo, ver) (S, h) u.1 u.2.1 u.2.2 (co, len) Rd) (fun r u => r = vaV T n mo x ∧ PCI T n mo ver u.1 ∧ TCI T n mo ver u.2.1 ∧ RCI T n ver u.2.2) := by
  refine hm_of (by decide +kernel) (Nat.le_of_ble_eq_true rfl) ?_
  intro p e s m args below meth c A Q F hr hlk hQ hSF hSH hNC htab
  refine v_st (w' := wC ad G (T, n, mo, ver) (S, h) P Tr Rg (co, len) Rd) (pc' := 0) (st' := []) rfl rfl rfl [0, 1] (lv' := [(0, .ref (ad 0)), (1, .int (nI x))]) rfl ?_
  refine v_aload_n F dL_value_0 0 rfl rfl ?_
  refine v_iload_n F dL_value_1 1 rfl rfl ?_
  refine v_cVX F hSF hSH cs_RL_45 dL_value_2 0 (ci := 7) rfl rfl [0, 1, 2, 3, 4, 5, 6, 7, 8, 9, 10, 11, 12, 13, 14, 15, 16, 17] [] (wc := wC ad G (T, n, mo, ver) (S, h) P Tr Rg (co, len) Rd) (wr := []) rfl rfl rfl rfl rfl (by decide) (x_X7_value lau G ad T n mo ver S h P Tr Rg (co, len) Rd (nI x) hn hT hP hC hR hst) (by decide) rfl rfl (Nat.le_of_ble_eq_true rfl) ⟨(Nat.le_of_ble_eq_true rfl), (Nat.le_of_ble_eq_true rfl)⟩ (fun E u hpx => ?_) (fun r u hw => ?_)
  · obtain ⟨P1, Tr1, Rg1⟩ := u
    obtain ⟨hpx, hci⟩ := hpx
    rcases hpx with ⟨hc, rfl⟩ | ⟨hc, rfl⟩
    · exact absurd hc (xVal_ok hx)
    · have hv : (-20000 : Int32) = vaV T n mo x := by
        unfold xVal at hc
        rw [if_neg (by simp [plB_t hx]), nI_clamp (show x < 2 ^ 31 by omega)] at hc
        split at hc
        · rename_i q; rw [vaV, q]
        · exact absurd hc (by decide)
      refine ⟨[], ⟨0, 5, 6, 33⟩, [], sISE, by rw [htab]; rfl, fun z hz => absurd hz List.not_mem_nil, rfl, by decide, F.2.2.2.2.1 _ wL_RL_33, va_Nw.use rfl (hSF.1 _ (by simp [BW])), fun q9 => ?_⟩
      refine v_w (w' := wC ad G (T, n, mo, ver) (S, h) P1 Tr1 Rg1 (co, len) Rd) rfl ?_
      refine v_astore_n (lv' := [(2, .ref q9), (0, .ref (ad 0)), (1, .int (nI x))]) F dL_value_6 2 rfl (by decide) rfl ?_
      refine v_sipush (v := (-20000)) F dL_value_7 (by decide) ?_
      exact v_iret F hr hlk hQ dL_value_10 (P1, Tr1, Rg1) rfl (⟨hv, hci⟩)
  · obtain ⟨P1, Tr1, Rg1⟩ := u
    obtain ⟨hc, hv, hci⟩ := hw
    refine v_w (w' := wC ad G (T, n, mo, ver) (S, h) P1 Tr1 Rg1 (co, len) Rd) rfl ?_
    have hv : r = vaV T n mo x := by
      unfold xVal at hc
      rw [nI_clamp (show x < 2 ^ 31 by omega)] at hv hc
      rw [hv, vaV]
      cases q : lb T x mo (-1) n with
      | none => rw [q] at hc; exact absurd hc (by split <;> simp)
      | some g => rfl
    exact v_iret F hr hlk hQ dL_value_5 (P1, Tr1, Rg1) rfl ⟨hv, hci⟩
theorem wCW_add : Cond.codeWith yL_add cL_add 4 (some .int) [(0, 6, 7, 33)] ∈ GW := tk3 (i := 46) (by decide +kernel) (by decide +kernel)
theorem ch_add : CSH RL 82 yL_add cL_add 4 [(0, 6, 7, 33)] 3 := ⟨wCW_add, wM_RL_82, wSt_yL_add, wI_RL, by decide +kernel, by decide⟩
theorem cs_RL_38 : CSV RL 38 RX7 yX7_add cX7_add 3 (some .int) 2 := ⟨wC_yX7_add, wM_RL_38, wIm_yX7_add, wSe_yX7_add, wI_RX7, by decide +kernel, by decide⟩
set_option maxHeartbeats 1000000 in
set_option maxRecDepth 100000 in
theorem h_add (lau : Launch) (G : GT) (ad : Nat → Nat) (T : Nat → Int32) (n mo ver : Nat) (S : Nat → Int32) (h : Nat) (P : PT) (Tr : TT) (Rg : RT) (co : Nat → Int32) (len : Nat) (Rd : DT) (sl off : Int32) (hsl : slB sl = true) (hof : ofB off = true) (K : Nat) (I : LIV K T n mo ver S h P Tr Rg co len Rd) (hK : K < 512) (hst : lau.stackTraces = false) : HM lau G 17 yL_add cL_add 4 [(0, 6, 7, 33)] [.ref (ad 0), .int sl, .int off] (wC ad G (T, n, mo, ver) (S, h) P Tr Rg (co, len) Rd) (fun u : LT × HT => wC ad G u.1 u.2 P Tr Rg (co, len) Rd) (fun r u => STP K h P Tr Rg co len Rd r u) := by
  refine hm_of (by decide +kernel) (Nat.le_of_ble_eq_true rfl) ?_
  intro p e s m args below meth c A Q F hr hlk hQ hSF hSH hNC htab
  refine v_st (w' := wC ad G (T, n, mo, ver) (S, h) P Tr Rg (co, len) Rd) (pc' := 0) (st' := []) rfl rfl rfl [0, 1, 2] (lv' := [(0, .ref (ad 0)), (1, .int sl), (2, .int off)]) rfl ?_
  refine v_aload_n F dL_add_0 0 rfl rfl ?_
  refine v_iload_n F dL_add_1 1 rfl rfl ?_
  refine v_iload_n F dL_add_2 2 rfl rfl ?_
  refine v_cVX F hSF hSH cs_RL_38 dL_add_3 0 (ci := 7) rfl rfl [0, 1, 2, 3, 4, 5, 6, 7, 8, 9, 10, 11, 12, 13, 14, 15, 16, 17] [] (wc := wC ad G (T, n, mo, ver) (S, h) P Tr Rg (co, len) Rd) (wr := []) rfl rfl rfl rfl rfl (by decide) (x_X7_add lau G ad T n mo ver S h P Tr Rg (co, len) Rd sl off I.1 I.2.2.2.1 hst) (by decide) rfl rfl (Nat.le_of_ble_eq_true rfl) ⟨(Nat.le_of_ble_eq_true rfl), (Nat.le_of_ble_eq_true rfl)⟩ (fun E u hpx => ?_) (fun r u hw => ?_)
  · rcases hpx with ⟨hc, rfl⟩ | ⟨hc, rfl⟩
    · exact absurd hc (xAdd_ok hsl hof)
    · skip
      refine ⟨[], ⟨0, 6, 7, 33⟩, [], sISE, by rw [htab]; rfl, fun z hz => absurd hz List.not_mem_nil, rfl, by decide, F.2.2.2.2.1 _ wL_RL_33, va_Nw.use rfl (hSF.1 _ (by simp [BW])), fun q9 => ?_⟩
      refine v_w (w' := wC ad G (T, n, mo, ver) (S, h) P Tr Rg (co, len) Rd) rfl ?_
      refine v_astore_n (lv' := [(3, .ref q9), (0, .ref (ad 0)), (1, .int sl), (2, .int off)]) F dL_add_7 3 rfl (by decide) rfl ?_
      refine v_bipush (v := (-3)) F dL_add_8 (by decide) ?_
      exact v_iret F hr hlk hQ dL_add_10 ((T, n, mo, ver), (S, h)) rfl (stp_same I hK)
  · obtain ⟨hc, hv⟩ := hw
    refine v_w (w' := wC ad G (pAdd T n sl off (nI 0) (nI 99), n + 1, mo, ver + 6) (pSave S h T n mo, pSaveH h) P Tr Rg (co, len) Rd) rfl ?_
    exact v_iret F hr hlk hQ dL_add_6 ((pAdd T n sl off (nI 0) (nI 99), n + 1, mo, ver + 6), (pSave S h T n mo, pSaveH h)) rfl (stp_mk (lr_add I hK hc) (hv ▸ nI_ne3 (by have := I.1; omega)))
theorem wCW_lift : Cond.codeWith yL_lift cL_lift 4 (some .int) [(0, 6, 7, 33)] ∈ GW := tk3 (i := 96) (by decide +kernel) (by decide +kernel)
theorem ch_lift : CSH RL 90 yL_lift cL_lift 4 [(0, 6, 7, 33)] 3 := ⟨wCW_lift, wM_RL_90, wSt_yL_lift, wI_RL, by decide +kernel, by decide⟩
theorem cs_RL_35 : CSV RL 35 RX7 yX7_lift cX7_lift 4 (some .int) 2 := ⟨wC_yX7_lift, wM_RL_35, wIm_yX7_lift, wSe_yX7_lift, wI_RX7, by decide +kernel, by decide⟩
set_option maxHeartbeats 1000000 in
set_option maxRecDepth 100000 in
theorem h_lift (lau : Launch) (G : GT) (ad : Nat → Nat) (T : Nat → Int32) (n mo ver : Nat) (S : Nat → Int32) (h : Nat) (P : PT) (Tr : TT) (Rg : RT) (co : Nat → Int32) (len : Nat) (Rd : DT) (li : Nat) (by_ : Int32) (hli : li < n) (hby : ofB by_ = true) (K : Nat) (I : LIV K T n mo ver S h P Tr Rg co len Rd) (hK : K < 512) (hst : lau.stackTraces = false) : HM lau G 17 yL_lift cL_lift 4 [(0, 6, 7, 33)] [.ref (ad 0), .int (nI li), .int by_] (wC ad G (T, n, mo, ver) (S, h) P Tr Rg (co, len) Rd) (fun u : LT × HT => wC ad G u.1 u.2 P Tr Rg (co, len) Rd) (fun r u => STP K h P Tr Rg co len Rd r u) := by
  refine hm_of (by decide +kernel) (Nat.le_of_ble_eq_true rfl) ?_
  intro p e s m args below meth c A Q F hr hlk hQ hSF hSH hNC htab
  refine v_st (w' := wC ad G (T, n, mo, ver) (S, h) P Tr Rg (co, len) Rd) (pc' := 0) (st' := []) rfl rfl rfl [0, 1, 2] (lv' := [(0, .ref (ad 0)), (1, .int (nI li)), (2, .int by_)]) rfl ?_
  refine v_aload_n F dL_lift_0 0 rfl rfl ?_
  refine v_iload_n F dL_lift_1 1 rfl rfl ?_
  refine v_iload_n F dL_lift_2 2 rfl rfl ?_
  refine v_cVX F hSF hSH cs_RL_35 dL_lift_3 0 (ci := 7) rfl rfl [0, 1, 2, 3, 4, 5, 6, 7, 8, 9, 10, 11, 12, 13, 14, 15, 16, 17] [] (wc := wC ad G (T, n, mo, ver) (S, h) P Tr Rg (co, len) Rd) (wr := []) rfl rfl rfl rfl rfl (by decide) (x_X7_lift lau G ad T n mo ver S h P Tr Rg (co, len) Rd (nI li) by_ I.1 I.2.2.2.1 hst) (by decide) rfl rfl (Nat.le_of_ble_eq_true rfl) ⟨(Nat.le_of_ble_eq_true rfl), (Nat.le_of_ble_eq_true rfl)⟩ (fun E u hpx => ?_) (fun r u hw => ?_)
  · rcases hpx with ⟨hc, rfl⟩ | ⟨hc, rfl⟩ | ⟨hc, rfl⟩
    · exact absurd hc (xLift_ok I.1 hli hby).1
    · exact absurd hc (xLift_ok I.1 hli hby).2
    · skip
      refine ⟨[], ⟨0, 6, 7, 33⟩, [], sISE, by rw [htab]; rfl, fun z hz => absurd hz List.not_mem_nil, rfl, by decide, F.2.2.2.2.1 _ wL_RL_33, va_Nw.use rfl (hSF.1 _ (by simp [BW])), fun q9 => ?_⟩
      refine v_w (w' := wC ad G (T, n, mo, ver) (S, h) P Tr Rg (co, len) Rd) rfl ?_
      refine v_astore_n (lv' := [(3, .ref q9), (0, .ref (ad 0)), (1, .int (nI li)), (2, .int by_)]) F dL_lift_7 3 rfl (by decide) rfl ?_
      refine v_sipush (v := (-10003)) F dL_lift_8 (by decide) ?_
      exact v_iret F hr hlk hQ dL_lift_11 ((T, n, mo, ver), (S, h)) rfl (stp_same I hK)
  · obtain ⟨hc, hv⟩ := hw
    refine v_w (w' := wC ad G (upd T (((nI li).toNatClampNeg * 6) + 1) (T ((nI li).toNatClampNeg * 6 + 1) + by_), n, mo, ver + 1) (pSave S h T n mo, pSaveH h) P Tr Rg (co, len) Rd) rfl ?_
    exact v_iret F hr hlk hQ dL_lift_6 ((upd T (((nI li).toNatClampNeg * 6) + 1) (T ((nI li).toNatClampNeg * 6 + 1) + by_), n, mo, ver + 1), (pSave S h T n mo, pSaveH h)) rfl (stp_mk (lr_lift I hK hc) (hv ▸ lift_ne hc))
theorem wCW_turn : Cond.codeWith yL_turn cL_turn 5 (some .int) [(0, 7, 8, 33)] ∈ GW := tk3 (i := 105) (by decide +kernel) (by decide +kernel)
theorem ch_turn : CSH RL 92 yL_turn cL_turn 5 [(0, 7, 8, 33)] 4 := ⟨wCW_turn, wM_RL_92, wSt_yL_turn, wI_RL, by decide +kernel, by decide⟩
theorem cs_RL_29 : CSV RL 29 RX7 yX7_turn cX7_turn 5 (some .int) 3 := ⟨wC_yX7_turn, wM_RL_29, wIm_yX7_turn, wSe_yX7_turn, wI_RX7, by decide +kernel, by decide⟩
set_option maxHeartbeats 1000000 in
set_option maxRecDepth 100000 in
theorem h_turn (lau : Launch) (G : GT) (ad : Nat → Nat) (T : Nat → Int32) (n mo ver : Nat) (S : Nat → Int32) (h : Nat) (P : PT) (Tr : TT) (Rg : RT) (co : Nat → Int32) (len : Nat) (Rd : DT) (li x : Nat) (sl : Int32) (hli : li < n) (hx : x < 64) (hsl : slB sl = true) (K : Nat) (I : LIV K T n mo ver S h P Tr Rg co len Rd) (hK : K < 512) (hst : lau.stackTraces = false) : HM lau G 17 yL_turn cL_turn 5 [(0, 7, 8, 33)] [.ref (ad 0), .int (nI li), .int (nI x), .int sl] (wC ad G (T, n, mo, ver) (S, h) P Tr Rg (co, len) Rd) (fun u : LT × HT => wC ad G u.1 u.2 P Tr Rg (co, len) Rd) (fun r u => STP K h P Tr Rg co len Rd r u) := by
  refine hm_of (by decide +kernel) (Nat.le_of_ble_eq_true rfl) ?_
  intro p e s m args below meth c A Q F hr hlk hQ hSF hSH hNC htab
  refine v_st (w' := wC ad G (T, n, mo, ver) (S, h) P Tr Rg (co, len) Rd) (pc' := 0) (st' := []) rfl rfl rfl [0, 1, 2, 3] (lv' := [(0, .ref (ad 0)), (1, .int (nI li)), (2, .int (nI x)), (3, .int sl)]) rfl ?_
  refine v_aload_n F dL_turn_0 0 rfl rfl ?_
  refine v_iload_n F dL_turn_1 1 rfl rfl ?_
  refine v_iload_n F dL_turn_2 2 rfl rfl ?_
  refine v_iload_n F dL_turn_3 3 rfl rfl ?_
  refine v_cVX F hSF hSH cs_RL_29 dL_turn_4 0 (ci := 7) rfl rfl [0, 1, 2, 3, 4, 5, 6, 7, 8, 9, 10, 11, 12, 13, 14, 15, 16, 17] [] (wc := wC ad G (T, n, mo, ver) (S, h) P Tr Rg (co, len) Rd) (wr := []) rfl rfl rfl rfl rfl (by decide) (x_X7_turn lau G ad T n mo ver S h P Tr Rg (co, len) Rd (nI li) (nI x) sl I.1 I.2.2.2.1 hst) (by decide) rfl rfl (Nat.le_of_ble_eq_true rfl) ⟨(Nat.le_of_ble_eq_true rfl), (Nat.le_of_ble_eq_true rfl)⟩ (fun E u hpx => ?_) (fun r u hw => ?_)
  · rcases hpx with ⟨hc, rfl⟩ | ⟨hc, rfl⟩ | ⟨hc, rfl⟩
    · exact absurd hc (xTurn_ok I.1 hli hx hsl).1
    · exact absurd hc (xTurn_ok I.1 hli hx hsl).2
    · skip
      refine ⟨[], ⟨0, 7, 8, 33⟩, [], sISE, by rw [htab]; rfl, fun z hz => absurd hz List.not_mem_nil, rfl, by decide, F.2.2.2.2.1 _ wL_RL_33, va_Nw.use rfl (hSF.1 _ (by simp [BW])), fun q9 => ?_⟩
      refine v_w (w' := wC ad G (T, n, mo, ver) (S, h) P Tr Rg (co, len) Rd) rfl ?_
      refine v_astore (lv' := [(4, .ref q9), (0, .ref (ad 0)), (1, .int (nI li)), (2, .int (nI x)), (3, .int sl)]) F dL_turn_8 (by decide) rfl ?_
      refine v_sipush (v := (-10003)) F dL_turn_10 (by decide) ?_
      exact v_iret F hr hlk hQ dL_turn_13 ((T, n, mo, ver), (S, h)) rfl (stp_same I hK)
  · obtain ⟨hc, hv⟩ := hw
    refine v_w (w' := wC ad G (upd (upd T (((nI li).toNatClampNeg * 6) + 0) sl) (((nI li).toNatClampNeg * 6) + 1) (tuV T (nI li) (nI x) sl), n, mo, ver + 2) (pSave S h T n mo, pSaveH h) P Tr Rg (co, len) Rd) rfl ?_
    exact v_iret F hr hlk hQ dL_turn_7 ((upd (upd T (((nI li).toNatClampNeg * 6) + 0) sl) (((nI li).toNatClampNeg * 6) + 1) (tuV T (nI li) (nI x) sl), n, mo, ver + 2), (pSave S h T n mo, pSaveH h)) rfl (stp_mk (lr_turn I hK hc) (hv ▸ turn_ne hc))
theorem wCW_undo : Cond.codeWith yL_undo cL_undo 2 (some .int) [(0, 4, 5, 33)] ∈ GW := tk3 (i := 130) (by decide +kernel) (by decide +kernel)
theorem ch_undo : CSH RL 101 yL_undo cL_undo 2 [(0, 4, 5, 33)] 1 := ⟨wCW_undo, wM_RL_101, wSt_yL_undo, wI_RL, by decide +kernel, by decide⟩
theorem cs_RL_41 : CSV RL 41 RX7 yX7_undo cX7_undo 1 (some .int) 0 := ⟨wC_yX7_undo, wM_RL_41, wIm_yX7_undo, wSe_yX7_undo, wI_RX7, by decide +kernel, by decide⟩
set_option maxHeartbeats 1000000 in
set_option maxRecDepth 100000 in
theorem h_undo (lau : Launch) (G : GT) (ad : Nat → Nat) (T : Nat → Int32) (n mo ver : Nat) (S : Nat → Int32) (h : Nat) (P : PT) (Tr : TT) (Rg : RT) (co : Nat → Int32) (len : Nat) (Rd : DT)   (K : Nat) (I : LIV K T n mo ver S h P Tr Rg co len Rd) (hK : K < 512) (hst : lau.stackTraces = false) : HM lau G 17 yL_undo cL_undo 2 [(0, 4, 5, 33)] [.ref (ad 0)] (wC ad G (T, n, mo, ver) (S, h) P Tr Rg (co, len) Rd) (fun u : LT × HT => wC ad G u.1 u.2 P Tr Rg (co, len) Rd) (fun r u => STP K h P Tr Rg co len Rd r u) := by
  obtain ⟨n', mo', hn', hmo', hn2, hmo2⟩ := lr_undo_n I
  refine hm_of (by decide +kernel) (Nat.le_of_ble_eq_true rfl) ?_
  intro p e s m args below meth c A Q F hr hlk hQ hSF hSH hNC htab
  refine v_st (w' := wC ad G (T, n, mo, ver) (S, h) P Tr Rg (co, len) Rd) (pc' := 0) (st' := []) rfl rfl rfl [0] (lv' := [(0, .ref (ad 0))]) rfl ?_
  refine v_aload_n F dL_undo_0 0 rfl rfl ?_
  refine v_cVX F hSF hSH cs_RL_41 dL_undo_1 0 (ci := 7) rfl rfl [0, 1, 2, 3, 4, 5, 6, 7, 8, 9, 10, 11, 12, 13, 14, 15, 16, 17] [] (wc := wC ad G (T, n, mo, ver) (S, h) P Tr Rg (co, len) Rd) (wr := []) rfl rfl rfl rfl rfl (by decide) (x_X7_undo lau G ad T n mo ver S h P Tr Rg (co, len) Rd n' mo' I.2.2.2.1 hn' hmo' hst) (by decide) rfl rfl (Nat.le_of_ble_eq_true rfl) ⟨(Nat.le_of_ble_eq_true rfl), (Nat.le_of_ble_eq_true rfl)⟩ (fun E u hpx => ?_) (fun r u hw => ?_)
  · obtain ⟨hc, rfl⟩ := hpx
    refine ⟨[], ⟨0, 4, 5, 33⟩, [], sISE, by rw [htab]; rfl, fun z hz => absurd hz List.not_mem_nil, rfl, by decide, F.2.2.2.2.1 _ wL_RL_33, va_Nw.use rfl (hSF.1 _ (by simp [BW])), fun q9 => ?_⟩
    refine v_w (w' := wC ad G (T, n, mo, ver) (S, h) P Tr Rg (co, len) Rd) rfl ?_
    refine v_astore_n (lv' := [(1, .ref q9), (0, .ref (ad 0))]) F dL_undo_5 1 rfl (by decide) rfl ?_
    refine v_bipush (v := (-3)) F dL_undo_6 (by decide) ?_
    exact v_iret F hr hlk hQ dL_undo_8 ((T, n, mo, ver), (S, h)) rfl (stp_same I hK)
  · obtain ⟨hc, hv⟩ := hw
    refine v_w (w' := wC ad G (va_cpy S T ((h - 1) * 122 + 2) 0 120, n', mo', ver + 1) (S, h - 1) P Tr Rg (co, len) Rd) rfl ?_
    exact v_iret F hr hlk hQ dL_undo_4 ((va_cpy S T ((h - 1) * 122 + 2) 0 120, n', mo', ver + 1), (S, h - 1)) rfl (stp_mk (lr_undo I hK hc hn' hmo' hn2 hmo2) (hv ▸ nI_ne3 (by have := I.2.2.2.1; omega)))
