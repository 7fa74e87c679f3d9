/-! the law's helpers -/
abbrev SU : Type := LT × HT × PT × TT × RT × XT × DT × (Nat → Int64)
def wL (ad : Nat → Nat) (ao : Nat) (G : GT) (L : LT) (Hs : HT) (P : PT) (Tr : TT) (Rg : RT) (Tx : XT) (Rd : DT) (O : Nat → Int64) : va_W := wC ad G L Hs P Tr Rg Tx Rd ++ [(ao, .inl (G.2.2.2, 1, .inr (.inl O)))]
def HPM (code : Nat) (val : Int32) (L : LT) (Hs : HT) (P : PT) (Tr : TT) (Rg : RT) (Tx : XT) (Rx : DT) (L' : LT) (Hs' : HT) (Tx' : XT) (Rd' : DT) (r : Int32) (u : SU) : Prop :=
  r = nI code ∧ (u.2.2.1 = P ∧ u.2.2.2.1 = Tr ∧ u.2.2.2.2.1 = Rg) ∧ (code = 0 → u.2.2.2.2.2.2.2 0 = val.toInt64 ∧ u.1 = L' ∧ u.2.1 = Hs' ∧ u.2.2.2.2.2.1 = Tx' ∧ u.2.2.2.2.2.2.1 = Rd') ∧ (¬ code = 0 → u.1 = L ∧ u.2.1 = Hs ∧ u.2.2.2.2.2.1 = Tx ∧ u.2.2.2.2.2.2.1 = Rx)
def HPO (code : Nat) (val : Int32) (T : Nat → Int32) (n mo ver : Nat) (Hs : HT) (Tx : XT) (Rd : DT) (r : Int32) (u : SU) : Prop :=
  r = nI code ∧ (PCI T n mo ver u.2.2.1 ∧ TCI T n mo ver u.2.2.2.1 ∧ RCI T n ver u.2.2.2.2.1) ∧ (code = 0 → u.2.2.2.2.2.2.2 0 = val.toInt64) ∧ u.1 = (T, n, mo, ver) ∧ u.2.1 = Hs ∧ u.2.2.2.2.2.1 = Tx ∧ u.2.2.2.2.2.2.1 = Rd
theorem updL_0 {O : Nat → Int64} {x : Int64} : vp_updL O 0 x 0 = x := by simp [vp_updL]
section HPS
variable {code k : Nat} {val r : Int32} {L L' : LT} {Hs Hs' : HT} {P : PT} {Tr : TT} {Rg : RT} {Tx Tx' : XT} {Rx Rd' Rd : DT} {O : Nat → Int64} {T : Nat → Int32} {n mo ver : Nat}
theorem HPM_0 (hc : code = 0) (hv : r = val) : HPM code val L Hs P Tr Rg Tx Rx L' Hs' Tx' Rd' (nI 0) (L', Hs', P, Tr, Rg, Tx', Rd', vp_updL O 0 r.toInt64) := ⟨by rw [hc], ⟨rfl, rfl, rfl⟩, fun _ => ⟨hv ▸ (updL_0 (O := O) (x := r.toInt64)), rfl, rfl, rfl, rfl⟩, fun q => absurd hc q⟩
theorem HPM_x (hc : code = k) (hk : ¬ k = 0) : HPM code val L Hs P Tr Rg Tx Rx L' Hs' Tx' Rd' (nI k) (L, Hs, P, Tr, Rg, Tx, Rx, O) := ⟨by rw [hc], ⟨rfl, rfl, rfl⟩, fun q => absurd (hc.symm.trans q) hk, fun _ => ⟨rfl, rfl, rfl, rfl⟩⟩
theorem HPO_0 (hc : code = 0) (hv : r = val) (hi : PCI T n mo ver P ∧ TCI T n mo ver Tr ∧ RCI T n ver Rg) : HPO code val T n mo ver Hs Tx Rd (nI 0) ((T, n, mo, ver), Hs, P, Tr, Rg, Tx, Rd, vp_updL O 0 r.toInt64) := ⟨by rw [hc], hi, fun _ => hv ▸ (updL_0 (O := O) (x := r.toInt64)), rfl, rfl, rfl, rfl⟩
theorem HPO_x (hc : code = k) (hk : ¬ k = 0) (hi : PCI T n mo ver P ∧ TCI T n mo ver Tr ∧ RCI T n ver Rg) : HPO code val T n mo ver Hs Tx Rd (nI k) ((T, n, mo, ver), Hs, P, Tr, Rg, Tx, Rd, O) := ⟨by rw [hc], hi, fun q => absurd (hc.symm.trans q) hk, rfl, rfl, rfl, rfl⟩
end HPS
theorem wCW_add : Cond.codeWith yL_add cL_add 5 (some .int) [(0, 10, 13, 13), (0, 10, 17, 15)] ∈ GW := tk3 (i := 174) (by decide +kernel) (by decide +kernel)
theorem ch_add : CSH RL 92 yL_add cL_add 5 [(0, 10, 13, 13), (0, 10, 17, 15)] 4 := ⟨wCW_add, wM_RL_92, wSt_yL_add, wI_RL, by decide +kernel, by decide⟩
theorem cs_RL_7 : CSV RL 7 RX7 yX7_add cX7_add 3 (some .int) 2 := ⟨wC_yX7_add, wM_RL_7, wIm_yX7_add, wSe_yX7_add, wI_RX7, by decide +kernel, by decide⟩
set_option maxHeartbeats 1000000 in
set_option maxRecDepth 100000 in
theorem h_add (lau : Launch) (G : GT) (ad : Nat → Nat) (ao : Nat) (T : Nat → Int32) (n mo ver : Nat) (S : Nat → Int32) (h : Nat) (P : PT) (Tr : TT) (Rg : RT) (co : Nat → Int32) (len : Nat) (Rd : DT) (O : Nat → Int64) (sl off : Int32)  (K : Nat) (I : LIV K T n mo ver S h P Tr Rg co len Rd) (hst : lau.stackTraces = false) : HM lau G 17 yL_add cL_add 5 [(0, 10, 13, 13), (0, 10, 17, 15)] [.ref (ad 0), .int sl, .int off, .ref ao] (wL ad ao G (T, n, mo, ver) (S, h) P Tr Rg (co, len) Rd O) (fun u : SU => wL ad ao G u.1 u.2.1 u.2.2.1 u.2.2.2.1 u.2.2.2.2.1 u.2.2.2.2.2.1 u.2.2.2.2.2.2.1 u.2.2.2.2.2.2.2) (fun r u => HPM (xAdd n sl off) (nI n) (T, n, mo, ver) (S, h) P Tr Rg (co, len) Rd (pAdd T n sl off (nI 0) (nI 99), n + 1, mo, ver + 6) (pSave S h T n mo, pSaveH h) ((co, len)) Rd r u) := by
  refine hm_of (by decide +kernel) (Nat.le_of_ble_eq_true rfl) ?_
  intro p e s m args below meth c A Q F hr hlk hQ hSF hSH hNC htab
  refine v_st (w' := wL ad ao G (T, n, mo, ver) (S, h) P Tr Rg (co, len) Rd O) (pc' := 0) (st' := []) rfl rfl rfl [0, 1, 2, 3] (lv' := [(0, .ref (ad 0)), (1, .int sl), (2, .int off), (3, .ref ao)]) rfl ?_
  refine v_aload_n F dL_add_0 3 rfl rfl ?_
  refine v_iconst (v := nI 0) F dL_add_1 (by decide) ?_
  refine v_aload_n F dL_add_2 0 rfl rfl ?_
  refine v_iload_n F dL_add_3 1 rfl rfl ?_
  refine v_iload_n F dL_add_4 2 rfl rfl ?_
  refine v_cVX F hSF hSH cs_RL_7 dL_add_5 0 (ci := 7) rfl rfl [0, 1, 2, 3, 4, 5, 6, 7, 8, 9, 10, 11, 12, 13, 14, 15, 16, 17] [18] (wc := wC ad G (T, n, mo, ver) (S, h) P Tr Rg (co, len) Rd) (wr := [(ao, .inl (G.2.2.2, 1, .inr (.inl O)))]) rfl rfl rfl rfl rfl (by decide) (x_X7_add lau G ad T n mo ver S h P Tr Rg (co, len) Rd sl off I.1 I.2.2.2.1 hst) (by decide) rfl rfl (Nat.le_of_ble_eq_true rfl) ⟨(Nat.le_of_ble_eq_true rfl), (Nat.le_of_ble_eq_true rfl)⟩ (fun E u hpx => ?_) (fun r u hw => ?_)
  · rcases hpx with ⟨hc, rfl⟩ | ⟨hc, rfl⟩
    · refine ⟨[], ⟨0, 10, 13, 13⟩, [⟨0, 10, 17, 15⟩], sIAE, by rw [htab]; rfl, ?_, rfl, by decide, F.2.2.2.2.1 _ wL_RL_13, va_Nw.use rfl (hSF.1 _ (by simp [BW])), fun q9 => ?_⟩
      · intro z hz; exact absurd hz List.not_mem_nil
      · refine v_pick [1, 2, 3, 4, 5, 6, 7, 8, 9, 10, 11, 12, 13, 14, 15, 16, 17, 18, 0] (w' := wL ad ao G (T, n, mo, ver) (S, h) P Tr Rg ((co, len)) Rd O) rfl rfl rfl ?_
        refine v_astore (lv' := [(4, .ref q9), (0, .ref (ad 0)), (1, .int sl), (2, .int off), (3, .ref ao)]) F dL_add_13 (by decide) rfl ?_
        refine v_iconst (v := nI 1) F dL_add_15 (by decide) ?_
        exact v_iret F hr hlk hQ dL_add_16 ((T, n, mo, ver), (S, h), P, Tr, Rg, ((co, len)), Rd, O) rfl (HPM_x hc (by decide))
    · refine ⟨[⟨0, 10, 13, 13⟩], ⟨0, 10, 17, 15⟩, [], sISE, by rw [htab]; rfl, ?_, rfl, by decide, F.2.2.2.2.1 _ wL_RL_15, va_Nw.use rfl (hSF.1 _ (by simp [BW])), fun q9 => ?_⟩
      · intro z hz
        simp only [List.mem_cons, List.not_mem_nil, or_false] at hz
        subst hz
        exact Or.inr ⟨by decide, sIAE, F.2.2.2.2.1 _ wL_RL_13, hNC (sISE, sIAE) (by simp [NCP])⟩
      · refine v_pick [1, 2, 3, 4, 5, 6, 7, 8, 9, 10, 11, 12, 13, 14, 15, 16, 17, 18, 0] (w' := wL ad ao G (T, n, mo, ver) (S, h) P Tr Rg ((co, len)) Rd O) rfl rfl rfl ?_
        refine v_astore (lv' := [(4, .ref q9), (0, .ref (ad 0)), (1, .int sl), (2, .int off), (3, .ref ao)]) F dL_add_17 (by decide) rfl ?_
        refine v_iconst (v := nI 2) F dL_add_19 (by decide) ?_
        exact v_iret F hr hlk hQ dL_add_20 ((T, n, mo, ver), (S, h), P, Tr, Rg, ((co, len)), Rd, O) rfl (HPM_x hc (by decide))
  · obtain ⟨hc, hv⟩ := hw
    refine v_pick [1, 2, 3, 4, 5, 6, 7, 8, 9, 10, 11, 12, 13, 14, 15, 16, 17, 18, 0] (w' := wL ad ao G (pAdd T n sl off (nI 0) (nI 99), n + 1, mo, ver + 6) (pSave S h T n mo, pSaveH h) P Tr Rg ((co, len)) Rd O) rfl rfl rfl ?_
    refine v_i2l F dL_add_8 ?_
    refine v_lastN F dL_add_9 18 rfl 0 rfl (by decide) (by decide) (wL ad ao G (pAdd T n sl off (nI 0) (nI 99), n + 1, mo, ver + 6) (pSave S h T n mo, pSaveH h) P Tr Rg ((co, len)) Rd (vp_updL O 0 r.toInt64)) rfl ?_
    refine v_goto F 21 dL_add_10 (by decide) ?_
    refine v_iconst (v := nI 0) F dL_add_21 (by decide) ?_
    exact v_iret F hr hlk hQ dL_add_22 ((pAdd T n sl off (nI 0) (nI 99), n + 1, mo, ver + 6), (pSave S h T n mo, pSaveH h), P, Tr, Rg, ((co, len)), Rd, vp_updL O 0 r.toInt64) rfl (HPM_0 hc hv)
theorem wCW_span : Cond.codeWith yL_span cL_span 6 (some .int) [(0, 12, 15, 21), (0, 12, 19, 13)] ∈ GW := tk3 (i := 207) (by decide +kernel) (by decide +kernel)
theorem ch_span : CSH RL 101 yL_span cL_span 6 [(0, 12, 15, 21), (0, 12, 19, 13)] 5 := ⟨wCW_span, wM_RL_101, wSt_yL_span, wI_RL, by decide +kernel, by decide⟩
theorem cs_RL_17 : CSV RL 17 RX7 yX7_span cX7_span 4 (some .int) 3 := ⟨wC_yX7_span, wM_RL_17, wIm_yX7_span, wSe_yX7_span, wI_RX7, by decide +kernel, by decide⟩
set_option maxHeartbeats 1000000 in
set_option maxRecDepth 100000 in
theorem h_span (lau : Launch) (G : GT) (ad : Nat → Nat) (ao : Nat) (T : Nat → Int32) (n mo ver : Nat) (S : Nat → Int32) (h : Nat) (P : PT) (Tr : TT) (Rg : RT) (co : Nat → Int32) (len : Nat) (Rd : DT) (O : Nat → Int64) (line a b : Int32)  (K : Nat) (I : LIV K T n mo ver S h P Tr Rg co len Rd) (hst : lau.stackTraces = false) : HM lau G 17 yL_span cL_span 6 [(0, 12, 15, 21), (0, 12, 19, 13)] [.ref (ad 0), .int line, .int a, .int b, .ref ao] (wL ad ao G (T, n, mo, ver) (S, h) P Tr Rg (co, len) Rd O) (fun u : SU => wL ad ao G u.1 u.2.1 u.2.2.1 u.2.2.2.1 u.2.2.2.2.1 u.2.2.2.2.2.1 u.2.2.2.2.2.2.1 u.2.2.2.2.2.2.2) (fun r u => HPM (xStr n line a b (nI 64)) (T (line.toNatClampNeg * 6 + 3) - T (line.toNatClampNeg * 6 + 2) + nI 1) (T, n, mo, ver) (S, h) P Tr Rg (co, len) Rd (upd (upd T ((line.toNatClampNeg * 6) + 2) a) ((line.toNatClampNeg * 6) + 3) b, n, mo, ver + 2) (pSave S h T n mo, pSaveH h) ((co, len)) Rd r u) := by
  refine hm_of (by decide +kernel) (Nat.le_of_ble_eq_true rfl) ?_
  intro p e s m args below meth c A Q F hr hlk hQ hSF hSH hNC htab
  refine v_st (w' := wL ad ao G (T, n, mo, ver) (S, h) P Tr Rg (co, len) Rd O) (pc' := 0) (st' := []) rfl rfl rfl [0, 1, 2, 3, 4] (lv' := [(0, .ref (ad 0)), (1, .int line), (2, .int a), (3, .int b), (4, .ref ao)]) rfl ?_
  refine v_aload F dL_span_0 rfl ?_
  refine v_iconst (v := nI 0) F dL_span_2 (by decide) ?_
  refine v_aload_n F dL_span_3 0 rfl rfl ?_
  refine v_iload_n F dL_span_4 1 rfl rfl ?_
  refine v_iload_n F dL_span_5 2 rfl rfl ?_
  refine v_iload_n F dL_span_6 3 rfl rfl ?_
  refine v_cVX F hSF hSH cs_RL_17 dL_span_7 0 (ci := 7) rfl rfl [0, 1, 2, 3, 4, 5, 6, 7, 8, 9, 10, 11, 12, 13, 14, 15, 16, 17] [18] (wc := wC ad G (T, n, mo, ver) (S, h) P Tr Rg (co, len) Rd) (wr := [(ao, .inl (G.2.2.2, 1, .inr (.inl O)))]) rfl rfl rfl rfl rfl (by decide) (x_X7_span lau G ad T n mo ver S h P Tr Rg (co, len) Rd line a b I.1 I.2.2.2.1 hst) (by decide) rfl rfl (Nat.le_of_ble_eq_true rfl) ⟨(Nat.le_of_ble_eq_true rfl), (Nat.le_of_ble_eq_true rfl)⟩ (fun E u hpx => ?_) (fun r u hw => ?_)
  · rcases hpx with ⟨hc, rfl⟩ | ⟨hc, rfl⟩
    · refine ⟨[], ⟨0, 12, 15, 21⟩, [⟨0, 12, 19, 13⟩], sIOB, by rw [htab]; rfl, ?_, rfl, by decide, F.2.2.2.2.1 _ wL_RL_21, va_Nw.use rfl (hSF.1 _ (by simp [BW])), fun q9 => ?_⟩
      · intro z hz; exact absurd hz List.not_mem_nil
      · refine v_pick [1, 2, 3, 4, 5, 6, 7, 8, 9, 10, 11, 12, 13, 14, 15, 16, 17, 18, 0] (w' := wL ad ao G (T, n, mo, ver) (S, h) P Tr Rg ((co, len)) Rd O) rfl rfl rfl ?_
        refine v_astore (lv' := [(5, .ref q9), (0, .ref (ad 0)), (1, .int line), (2, .int a), (3, .int b), (4, .ref ao)]) F dL_span_15 (by decide) rfl ?_
        refine v_iconst (v := nI 1) F dL_span_17 (by decide) ?_
        exact v_iret F hr hlk hQ dL_span_18 ((T, n, mo, ver), (S, h), P, Tr, Rg, ((co, len)), Rd, O) rfl (HPM_x hc (by decide))
    · refine ⟨[⟨0, 12, 15, 21⟩], ⟨0, 12, 19, 13⟩, [], sIAE, by rw [htab]; rfl, ?_, rfl, by decide, F.2.2.2.2.1 _ wL_RL_13, va_Nw.use rfl (hSF.1 _ (by simp [BW])), fun q9 => ?_⟩
      · intro z hz
        simp only [List.mem_cons, List.not_mem_nil, or_false] at hz
        subst hz
        exact Or.inr ⟨by decide, sIOB, F.2.2.2.2.1 _ wL_RL_21, hNC (sIAE, sIOB) (by simp [NCP])⟩
      · refine v_pick [1, 2, 3, 4, 5, 6, 7, 8, 9, 10, 11, 12, 13, 14, 15, 16, 17, 18, 0] (w' := wL ad ao G (T, n, mo, ver) (S, h) P Tr Rg ((co, len)) Rd O) rfl rfl rfl ?_
        refine v_astore (lv' := [(5, .ref q9), (0, .ref (ad 0)), (1, .int line), (2, .int a), (3, .int b), (4, .ref ao)]) F dL_span_19 (by decide) rfl ?_
        refine v_iconst (v := nI 2) F dL_span_21 (by decide) ?_
        exact v_iret F hr hlk hQ dL_span_22 ((T, n, mo, ver), (S, h), P, Tr, Rg, ((co, len)), Rd, O) rfl (HPM_x hc (by decide))
  · obtain ⟨hc, hv⟩ := hw
    refine v_pick [1, 2, 3, 4, 5, 6, 7, 8, 9, 10, 11, 12, 13, 14, 15, 16, 17, 18, 0] (w' := wL ad ao G (upd (upd T ((line.toNatClampNeg * 6) + 2) a) ((line.toNatClampNeg * 6) + 3) b, n, mo, ver + 2) (pSave S h T n mo, pSaveH h) P Tr Rg ((co, len)) Rd O) rfl rfl rfl ?_
    refine v_i2l F dL_span_10 ?_
    refine v_lastN F dL_span_11 18 rfl 0 rfl (by decide) (by decide) (wL ad ao G (upd (upd T ((line.toNatClampNeg * 6) + 2) a) ((line.toNatClampNeg * 6) + 3) b, n, mo, ver + 2) (pSave S h T n mo, pSaveH h) P Tr Rg ((co, len)) Rd (vp_updL O 0 r.toInt64)) rfl ?_
    refine v_goto F 23 dL_span_12 (by decide) ?_
    refine v_iconst (v := nI 0) F dL_span_23 (by decide) ?_
    exact v_iret F hr hlk hQ dL_span_24 ((upd (upd T ((line.toNatClampNeg * 6) + 2) a) ((line.toNatClampNeg * 6) + 3) b, n, mo, ver + 2), (pSave S h T n mo, pSaveH h), P, Tr, Rg, ((co, len)), Rd, vp_updL O 0 r.toInt64) rfl (HPM_0 hc hv)
theorem wCW_live : Cond.codeWith yL_live cL_live 6 (some .int) [(0, 12, 15, 21), (0, 12, 19, 13)] ∈ GW := tk3 (i := 220) (by decide +kernel) (by decide +kernel)
theorem ch_live : CSH RL 105 yL_live cL_live 6 [(0, 12, 15, 21), (0, 12, 19, 13)] 5 := ⟨wCW_live, wM_RL_105, wSt_yL_live, wI_RL, by decide +kernel, by decide⟩
theorem cs_RL_23 : CSV RL 23 RX7 yX7_live cX7_live 4 (some .int) 3 := ⟨wC_yX7_live, wM_RL_23, wIm_yX7_live, wSe_yX7_live, wI_RX7, by decide +kernel, by decide⟩
set_option maxHeartbeats 1000000 in
set_option maxRecDepth 100000 in
theorem h_live (lau : Launch) (G : GT) (ad : Nat → Nat) (ao : Nat) (T : Nat → Int32) (n mo ver : Nat) (S : Nat → Int32) (h : Nat) (P : PT) (Tr : TT) (Rg : RT) (co : Nat → Int32) (len : Nat) (Rd : DT) (O : Nat → Int64) (line a b : Int32)  (K : Nat) (I : LIV K T n mo ver S h P Tr Rg co len Rd) (hst : lau.stackTraces = false) : HM lau G 17 yL_live cL_live 6 [(0, 12, 15, 21), (0, 12, 19, 13)] [.ref (ad 0), .int line, .int a, .int b, .ref ao] (wL ad ao G (T, n, mo, ver) (S, h) P Tr Rg (co, len) Rd O) (fun u : SU => wL ad ao G u.1 u.2.1 u.2.2.1 u.2.2.2.1 u.2.2.2.2.1 u.2.2.2.2.2.1 u.2.2.2.2.2.2.1 u.2.2.2.2.2.2.2) (fun r u => HPM (xStr n line a b (nI 100)) (T (line.toNatClampNeg * 6 + 5) - T (line.toNatClampNeg * 6 + 4) + nI 1) (T, n, mo, ver) (S, h) P Tr Rg (co, len) Rd (upd (upd T ((line.toNatClampNeg * 6) + 4) a) ((line.toNatClampNeg * 6) + 5) b, n, mo, ver + 2) (pSave S h T n mo, pSaveH h) ((co, len)) Rd r u) := by
  refine hm_of (by decide +kernel) (Nat.le_of_ble_eq_true rfl) ?_
  intro p e s m args below meth c A Q F hr hlk hQ hSF hSH hNC htab
  refine v_st (w' := wL ad ao G (T, n, mo, ver) (S, h) P Tr Rg (co, len) Rd O) (pc' := 0) (st' := []) rfl rfl rfl [0, 1, 2, 3, 4] (lv' := [(0, .ref (ad 0)), (1, .int line), (2, .int a), (3, .int b), (4, .ref ao)]) rfl ?_
  refine v_aload F dL_live_0 rfl ?_
  refine v_iconst (v := nI 0) F dL_live_2 (by decide) ?_
  refine v_aload_n F dL_live_3 0 rfl rfl ?_
  refine v_iload_n F dL_live_4 1 rfl rfl ?_
  refine v_iload_n F dL_live_5 2 rfl rfl ?_
  refine v_iload_n F dL_live_6 3 rfl rfl ?_
  refine v_cVX F hSF hSH cs_RL_23 dL_live_7 0 (ci := 7) rfl rfl [0, 1, 2, 3, 4, 5, 6, 7, 8, 9, 10, 11, 12, 13, 14, 15, 16, 17] [18] (wc := wC ad G (T, n, mo, ver) (S, h) P Tr Rg (co, len) Rd) (wr := [(ao, .inl (G.2.2.2, 1, .inr (.inl O)))]) rfl rfl rfl rfl rfl (by decide) (x_X7_live lau G ad T n mo ver S h P Tr Rg (co, len) Rd line a b I.1 I.2.2.2.1 hst) (by decide) rfl rfl (Nat.le_of_ble_eq_true rfl) ⟨(Nat.le_of_ble_eq_true rfl), (Nat.le_of_ble_eq_true rfl)⟩ (fun E u hpx => ?_) (fun r u hw => ?_)
  · rcases hpx with ⟨hc, rfl⟩ | ⟨hc, rfl⟩
    · refine ⟨[], ⟨0, 12, 15, 21⟩, [⟨0, 12, 19, 13⟩], sIOB, by rw [htab]; rfl, ?_, rfl, by decide, F.2.2.2.2.1 _ wL_RL_21, va_Nw.use rfl (hSF.1 _ (by simp [BW])), fun q9 => ?_⟩
      · intro z hz; exact absurd hz List.not_mem_nil
      · refine v_pick [1, 2, 3, 4, 5, 6, 7, 8, 9, 10, 11, 12, 13, 14, 15, 16, 17, 18, 0] (w' := wL ad ao G (T, n, mo, ver) (S, h) P Tr Rg ((co, len)) Rd O) rfl rfl rfl ?_
        refine v_astore (lv' := [(5, .ref q9), (0, .ref (ad 0)), (1, .int line), (2, .int a), (3, .int b), (4, .ref ao)]) F dL_live_15 (by decide) rfl ?_
        refine v_iconst (v := nI 1) F dL_live_17 (by decide) ?_
        exact v_iret F hr hlk hQ dL_live_18 ((T, n, mo, ver), (S, h), P, Tr, Rg, ((co, len)), Rd, O) rfl (HPM_x hc (by decide))
    · refine ⟨[⟨0, 12, 15, 21⟩], ⟨0, 12, 19, 13⟩, [], sIAE, by rw [htab]; rfl, ?_, rfl, by decide, F.2.2.2.2.1 _ wL_RL_13, va_Nw.use rfl (hSF.1 _ (by simp [BW])), fun q9 => ?_⟩
      · intro z hz
        simp only [List.mem_cons, List.not_mem_nil, or_false] at hz
        subst hz
        exact Or.inr ⟨by decide, sIOB, F.2.2.2.2.1 _ wL_RL_21, hNC (sIAE, sIOB) (by simp [NCP])⟩
      · refine v_pick [1, 2, 3, 4, 5, 6, 7, 8, 9, 10, 11, 12, 13, 14, 15, 16, 17, 18, 0] (w' := wL ad ao G (T, n, mo, ver) (S, h) P Tr Rg ((co, len)) Rd O) rfl rfl rfl ?_
        refine v_astore (lv' := [(5, .ref q9), (0, .ref (ad 0)), (1, .int line), (2, .int a), (3, .int b), (4, .ref ao)]) F dL_live_19 (by decide) rfl ?_
        refine v_iconst (v := nI 2) F dL_live_21 (by decide) ?_
        exact v_iret F hr hlk hQ dL_live_22 ((T, n, mo, ver), (S, h), P, Tr, Rg, ((co, len)), Rd, O) rfl (HPM_x hc (by decide))
  · obtain ⟨hc, hv⟩ := hw
    refine v_pick [1, 2, 3, 4, 5, 6, 7, 8, 9, 10, 11, 12, 13, 14, 15, 16, 17, 18, 0] (w' := wL ad ao G (upd (upd T ((line.toNatClampNeg * 6) + 4) a) ((line.toNatClampNeg * 6) + 5) b, n, mo, ver + 2) (pSave S h T n mo, pSaveH h) P Tr Rg ((co, len)) Rd O) rfl rfl rfl ?_
    refine v_i2l F dL_live_10 ?_
    refine v_lastN F dL_live_11 18 rfl 0 rfl (by decide) (by decide) (wL ad ao G (upd (upd T ((line.toNatClampNeg * 6) + 4) a) ((line.toNatClampNeg * 6) + 5) b, n, mo, ver + 2) (pSave S h T n mo, pSaveH h) P Tr Rg ((co, len)) Rd (vp_updL O 0 r.toInt64)) rfl ?_
    refine v_goto F 23 dL_live_12 (by decide) ?_
    refine v_iconst (v := nI 0) F dL_live_23 (by decide) ?_
    exact v_iret F hr hlk hQ dL_live_24 ((upd (upd T ((line.toNatClampNeg * 6) + 4) a) ((line.toNatClampNeg * 6) + 5) b, n, mo, ver + 2), (pSave S h T n mo, pSaveH h), P, Tr, Rg, ((co, len)), Rd, vp_updL O 0 r.toInt64) rfl (HPM_0 hc hv)
theorem wCW_lift : Cond.codeWith yL_lift cL_lift 5 (some .int) [(0, 10, 13, 21), (0, 10, 17, 13), (0, 10, 21, 15)] ∈ GW := tk3 (i := 228) (by decide +kernel) (by decide +kernel)
theorem ch_lift : CSH RL 108 yL_lift cL_lift 5 [(0, 10, 13, 21), (0, 10, 17, 13), (0, 10, 21, 15)] 4 := ⟨wCW_lift, wM_RL_108, wSt_yL_lift, wI_RL, by decide +kernel, by decide⟩
theorem cs_RL_26 : CSV RL 26 RX7 yX7_lift cX7_lift 4 (some .int) 2 := ⟨wC_yX7_lift, wM_RL_26, wIm_yX7_lift, wSe_yX7_lift, wI_RX7, by decide +kernel, by decide⟩
set_option maxHeartbeats 1000000 in
set_option maxRecDepth 100000 in
theorem h_lift (lau : Launch) (G : GT) (ad : Nat → Nat) (ao : Nat) (T : Nat → Int32) (n mo ver : Nat) (S : Nat → Int32) (h : Nat) (P : PT) (Tr : TT) (Rg : RT) (co : Nat → Int32) (len : Nat) (Rd : DT) (O : Nat → Int64) (line by_ : Int32)  (K : Nat) (I : LIV K T n mo ver S h P Tr Rg co len Rd) (hst : lau.stackTraces = false) : HM lau G 17 yL_lift cL_lift 5 [(0, 10, 13, 21), (0, 10, 17, 13), (0, 10, 21, 15)] [.ref (ad 0), .int line, .int by_, .ref ao] (wL ad ao G (T, n, mo, ver) (S, h) P Tr Rg (co, len) Rd O) (fun u : SU => wL ad ao G u.1 u.2.1 u.2.2.1 u.2.2.2.1 u.2.2.2.2.1 u.2.2.2.2.2.1 u.2.2.2.2.2.2.1 u.2.2.2.2.2.2.2) (fun r u => HPM (xLift T n line by_) (T (line.toNatClampNeg * 6 + 1) + by_) (T, n, mo, ver) (S, h) P Tr Rg (co, len) Rd (upd T ((line.toNatClampNeg * 6) + 1) (T (line.toNatClampNeg * 6 + 1) + by_), n, mo, ver + 1) (pSave S h T n mo, pSaveH h) ((co, len)) Rd r u) := by
  refine hm_of (by decide +kernel) (Nat.le_of_ble_eq_true rfl) ?_
  intro p e s m args below meth c A Q F hr hlk hQ hSF hSH hNC htab
  refine v_st (w' := wL ad ao G (T, n, mo, ver) (S, h) P Tr Rg (co, len) Rd O) (pc' := 0) (st' := []) rfl rfl rfl [0, 1, 2, 3] (lv' := [(0, .ref (ad 0)), (1, .int line), (2, .int by_), (3, .ref ao)]) rfl ?_
  refine v_aload_n F dL_lift_0 3 rfl rfl ?_
  refine v_iconst (v := nI 0) F dL_lift_1 (by decide) ?_
  refine v_aload_n F dL_lift_2 0 rfl rfl ?_
  refine v_iload_n F dL_lift_3 1 rfl rfl ?_
  refine v_iload_n F dL_lift_4 2 rfl rfl ?_
  refine v_cVX F hSF hSH cs_RL_26 dL_lift_5 0 (ci := 7) rfl rfl [0, 1, 2, 3, 4, 5, 6, 7, 8, 9, 10, 11, 12, 13, 14, 15, 16, 17] [18] (wc := wC ad G (T, n, mo, ver) (S, h) P Tr Rg (co, len) Rd) (wr := [(ao, .inl (G.2.2.2, 1, .inr (.inl O)))]) rfl rfl rfl rfl rfl (by decide) (x_X7_lift lau G ad T n mo ver S h P Tr Rg (co, len) Rd line by_ I.1 I.2.2.2.1 hst) (by decide) rfl rfl (Nat.le_of_ble_eq_true rfl) ⟨(Nat.le_of_ble_eq_true rfl), (Nat.le_of_ble_eq_true rfl)⟩ (fun E u hpx => ?_) (fun r u hw => ?_)
  · rcases hpx with ⟨hc, rfl⟩ | ⟨hc, rfl⟩ | ⟨hc, rfl⟩
    · refine ⟨[], ⟨0, 10, 13, 21⟩, [⟨0, 10, 17, 13⟩, ⟨0, 10, 21, 15⟩], sIOB, by rw [htab]; rfl, ?_, rfl, by decide, F.2.2.2.2.1 _ wL_RL_21, va_Nw.use rfl (hSF.1 _ (by simp [BW])), fun q9 => ?_⟩
      · intro z hz; exact absurd hz List.not_mem_nil
      · refine v_pick [1, 2, 3, 4, 5, 6, 7, 8, 9, 10, 11, 12, 13, 14, 15, 16, 17, 18, 0] (w' := wL ad ao G (T, n, mo, ver) (S, h) P Tr Rg ((co, len)) Rd O) rfl rfl rfl ?_
        refine v_astore (lv' := [(4, .ref q9), (0, .ref (ad 0)), (1, .int line), (2, .int by_), (3, .ref ao)]) F dL_lift_13 (by decide) rfl ?_
        refine v_iconst (v := nI 1) F dL_lift_15 (by decide) ?_
        exact v_iret F hr hlk hQ dL_lift_16 ((T, n, mo, ver), (S, h), P, Tr, Rg, ((co, len)), Rd, O) rfl (HPM_x hc (by decide))
    · refine ⟨[⟨0, 10, 13, 21⟩], ⟨0, 10, 17, 13⟩, [⟨0, 10, 21, 15⟩], sIAE, by rw [htab]; rfl, ?_, rfl, by decide, F.2.2.2.2.1 _ wL_RL_13, va_Nw.use rfl (hSF.1 _ (by simp [BW])), fun q9 => ?_⟩
      · intro z hz
        simp only [List.mem_cons, List.not_mem_nil, or_false] at hz
        subst hz
        exact Or.inr ⟨by decide, sIOB, F.2.2.2.2.1 _ wL_RL_21, hNC (sIAE, sIOB) (by simp [NCP])⟩
      · refine v_pick [1, 2, 3, 4, 5, 6, 7, 8, 9, 10, 11, 12, 13, 14, 15, 16, 17, 18, 0] (w' := wL ad ao G (T, n, mo, ver) (S, h) P Tr Rg ((co, len)) Rd O) rfl rfl rfl ?_
        refine v_astore (lv' := [(4, .ref q9), (0, .ref (ad 0)), (1, .int line), (2, .int by_), (3, .ref ao)]) F dL_lift_17 (by decide) rfl ?_
        refine v_iconst (v := nI 2) F dL_lift_19 (by decide) ?_
        exact v_iret F hr hlk hQ dL_lift_20 ((T, n, mo, ver), (S, h), P, Tr, Rg, ((co, len)), Rd, O) rfl (HPM_x hc (by decide))
    · refine ⟨[⟨0, 10, 13, 21⟩, ⟨0, 10, 17, 13⟩], ⟨0, 10, 21, 15⟩, [], sISE, by rw [htab]; rfl, ?_, rfl, by decide, F.2.2.2.2.1 _ wL_RL_15, va_Nw.use rfl (hSF.1 _ (by simp [BW])), fun q9 => ?_⟩
      · intro z hz
        simp only [List.mem_cons, List.not_mem_nil, or_false] at hz
        rcases hz with rfl | rfl
        · exact Or.inr ⟨by decide, sIOB, F.2.2.2.2.1 _ wL_RL_21, hNC (sISE, sIOB) (by simp [NCP])⟩
        · exact Or.inr ⟨by decide, sIAE, F.2.2.2.2.1 _ wL_RL_13, hNC (sISE, sIAE) (by simp [NCP])⟩
      · refine v_pick [1, 2, 3, 4, 5, 6, 7, 8, 9, 10, 11, 12, 13, 14, 15, 16, 17, 18, 0] (w' := wL ad ao G (T, n, mo, ver) (S, h) P Tr Rg ((co, len)) Rd O) rfl rfl rfl ?_
        refine v_astore (lv' := [(4, .ref q9), (0, .ref (ad 0)), (1, .int line), (2, .int by_), (3, .ref ao)]) F dL_lift_21 (by decide) rfl ?_
        refine v_iconst (v := nI 3) F dL_lift_23 (by decide) ?_
        exact v_iret F hr hlk hQ dL_lift_24 ((T, n, mo, ver), (S, h), P, Tr, Rg, ((co, len)), Rd, O) rfl (HPM_x hc (by decide))
  · obtain ⟨hc, hv⟩ := hw
    refine v_pick [1, 2, 3, 4, 5, 6, 7, 8, 9, 10, 11, 12, 13, 14, 15, 16, 17, 18, 0] (w' := wL ad ao G (upd T ((line.toNatClampNeg * 6) + 1) (T (line.toNatClampNeg * 6 + 1) + by_), n, mo, ver + 1) (pSave S h T n mo, pSaveH h) P Tr Rg ((co, len)) Rd O) rfl rfl rfl ?_
    refine v_i2l F dL_lift_8 ?_
    refine v_lastN F dL_lift_9 18 rfl 0 rfl (by decide) (by decide) (wL ad ao G (upd T ((line.toNatClampNeg * 6) + 1) (T (line.toNatClampNeg * 6 + 1) + by_), n, mo, ver + 1) (pSave S h T n mo, pSaveH h) P Tr Rg ((co, len)) Rd (vp_updL O 0 r.toInt64)) rfl ?_
    refine v_goto F 25 dL_lift_10 (by decide) ?_
    refine v_iconst (v := nI 0) F dL_lift_25 (by decide) ?_
    exact v_iret F hr hlk hQ dL_lift_26 ((upd T ((line.toNatClampNeg * 6) + 1) (T (line.toNatClampNeg * 6 + 1) + by_), n, mo, ver + 1), (pSave S h T n mo, pSaveH h), P, Tr, Rg, ((co, len)), Rd, vp_updL O 0 r.toInt64) rfl (HPM_0 hc hv)
theorem wCW_turn : Cond.codeWith yL_turn cL_turn 6 (some .int) [(0, 12, 15, 21), (0, 12, 19, 13), (0, 12, 23, 15)] ∈ GW := tk3 (i := 237) (by decide +kernel) (by decide +kernel)
theorem ch_turn : CSH RL 111 yL_turn cL_turn 6 [(0, 12, 15, 21), (0, 12, 19, 13), (0, 12, 23, 15)] 5 := ⟨wCW_turn, wM_RL_111, wSt_yL_turn, wI_RL, by decide +kernel, by decide⟩
theorem cs_RL_29 : CSV RL 29 RX7 yX7_turn cX7_turn 5 (some .int) 3 := ⟨wC_yX7_turn, wM_RL_29, wIm_yX7_turn, wSe_yX7_turn, wI_RX7, by decide +kernel, by decide⟩
set_option maxHeartbeats 1000000 in
set_option maxRecDepth 100000 in
theorem h_turn (lau : Launch) (G : GT) (ad : Nat → Nat) (ao : Nat) (T : Nat → Int32) (n mo ver : Nat) (S : Nat → Int32) (h : Nat) (P : PT) (Tr : TT) (Rg : RT) (co : Nat → Int32) (len : Nat) (Rd : DT) (O : Nat → Int64) (line pl sl : Int32)  (K : Nat) (I : LIV K T n mo ver S h P Tr Rg co len Rd) (hst : lau.stackTraces = false) : HM lau G 17 yL_turn cL_turn 6 [(0, 12, 15, 21), (0, 12, 19, 13), (0, 12, 23, 15)] [.ref (ad 0), .int line, .int pl, .int sl, .ref ao] (wL ad ao G (T, n, mo, ver) (S, h) P Tr Rg (co, len) Rd O) (fun u : SU => wL ad ao G u.1 u.2.1 u.2.2.1 u.2.2.2.1 u.2.2.2.2.1 u.2.2.2.2.2.1 u.2.2.2.2.2.2.1 u.2.2.2.2.2.2.2) (fun r u => HPM (xTurn T n line pl sl) (tuV T line pl sl) (T, n, mo, ver) (S, h) P Tr Rg (co, len) Rd (upd (upd T ((line.toNatClampNeg * 6) + 0) sl) ((line.toNatClampNeg * 6) + 1) (tuV T line pl sl), n, mo, ver + 2) (pSave S h T n mo, pSaveH h) ((co, len)) Rd r u) := by
  refine hm_of (by decide +kernel) (Nat.le_of_ble_eq_true rfl) ?_
  intro p e s m args below meth c A Q F hr hlk hQ hSF hSH hNC htab
  refine v_st (w' := wL ad ao G (T, n, mo, ver) (S, h) P Tr Rg (co, len) Rd O) (pc' := 0) (st' := []) rfl rfl rfl [0, 1, 2, 3, 4] (lv' := [(0, .ref (ad 0)), (1, .int line), (2, .int pl), (3, .int sl), (4, .ref ao)]) rfl ?_
  refine v_aload F dL_turn_0 rfl ?_
  refine v_iconst (v := nI 0) F dL_turn_2 (by decide) ?_
  refine v_aload_n F dL_turn_3 0 rfl rfl ?_
  refine v_iload_n F dL_turn_4 1 rfl rfl ?_
  refine v_iload_n F dL_turn_5 2 rfl rfl ?_
  refine v_iload_n F dL_turn_6 3 rfl rfl ?_
  refine v_cVX F hSF hSH cs_RL_29 dL_turn_7 0 (ci := 7) rfl rfl [0, 1, 2, 3, 4, 5, 6, 7, 8, 9, 10, 11, 12, 13, 14, 15, 16, 17] [18] (wc := wC ad G (T, n, mo, ver) (S, h) P Tr Rg (co, len) Rd) (wr := [(ao, .inl (G.2.2.2, 1, .inr (.inl O)))]) rfl rfl rfl rfl rfl (by decide) (x_X7_turn lau G ad T n mo ver S h P Tr Rg (co, len) Rd line pl sl I.1 I.2.2.2.1 hst) (by decide) rfl rfl (Nat.le_of_ble_eq_true rfl) ⟨(Nat.le_of_ble_eq_true rfl), (Nat.le_of_ble_eq_true rfl)⟩ (fun E u hpx => ?_) (fun r u hw => ?_)
  · rcases hpx with ⟨hc, rfl⟩ | ⟨hc, rfl⟩ | ⟨hc, rfl⟩
    · refine ⟨[], ⟨0, 12, 15, 21⟩, [⟨0, 12, 19, 13⟩, ⟨0, 12, 23, 15⟩], sIOB, by rw [htab]; rfl, ?_, rfl, by decide, F.2.2.2.2.1 _ wL_RL_21, va_Nw.use rfl (hSF.1 _ (by simp [BW])), fun q9 => ?_⟩
      · intro z hz; exact absurd hz List.not_mem_nil
      · refine v_pick [1, 2, 3, 4, 5, 6, 7, 8, 9, 10, 11, 12, 13, 14, 15, 16, 17, 18, 0] (w' := wL ad ao G (T, n, mo, ver) (S, h) P Tr Rg ((co, len)) Rd O) rfl rfl rfl ?_
        refine v_astore (lv' := [(5, .ref q9), (0, .ref (ad 0)), (1, .int line), (2, .int pl), (3, .int sl), (4, .ref ao)]) F dL_turn_15 (by decide) rfl ?_
        refine v_iconst (v := nI 1) F dL_turn_17 (by decide) ?_
        exact v_iret F hr hlk hQ dL_turn_18 ((T, n, mo, ver), (S, h), P, Tr, Rg, ((co, len)), Rd, O) rfl (HPM_x hc (by decide))
    · refine ⟨[⟨0, 12, 15, 21⟩], ⟨0, 12, 19, 13⟩, [⟨0, 12, 23, 15⟩], sIAE, by rw [htab]; rfl, ?_, rfl, by decide, F.2.2.2.2.1 _ wL_RL_13, va_Nw.use rfl (hSF.1 _ (by simp [BW])), fun q9 => ?_⟩
      · intro z hz
        simp only [List.mem_cons, List.not_mem_nil, or_false] at hz
        subst hz
        exact Or.inr ⟨by decide, sIOB, F.2.2.2.2.1 _ wL_RL_21, hNC (sIAE, sIOB) (by simp [NCP])⟩
      · refine v_pick [1, 2, 3, 4, 5, 6, 7, 8, 9, 10, 11, 12, 13, 14, 15, 16, 17, 18, 0] (w' := wL ad ao G (T, n, mo, ver) (S, h) P Tr Rg ((co, len)) Rd O) rfl rfl rfl ?_
        refine v_astore (lv' := [(5, .ref q9), (0, .ref (ad 0)), (1, .int line), (2, .int pl), (3, .int sl), (4, .ref ao)]) F dL_turn_19 (by decide) rfl ?_
        refine v_iconst (v := nI 2) F dL_turn_21 (by decide) ?_
        exact v_iret F hr hlk hQ dL_turn_22 ((T, n, mo, ver), (S, h), P, Tr, Rg, ((co, len)), Rd, O) rfl (HPM_x hc (by decide))
    · refine ⟨[⟨0, 12, 15, 21⟩, ⟨0, 12, 19, 13⟩], ⟨0, 12, 23, 15⟩, [], sISE, by rw [htab]; rfl, ?_, rfl, by decide, F.2.2.2.2.1 _ wL_RL_15, va_Nw.use rfl (hSF.1 _ (by simp [BW])), fun q9 => ?_⟩
      · intro z hz
        simp only [List.mem_cons, List.not_mem_nil, or_false] at hz
        rcases hz with rfl | rfl
        · exact Or.inr ⟨by decide, sIOB, F.2.2.2.2.1 _ wL_RL_21, hNC (sISE, sIOB) (by simp [NCP])⟩
        · exact Or.inr ⟨by decide, sIAE, F.2.2.2.2.1 _ wL_RL_13, hNC (sISE, sIAE) (by simp [NCP])⟩
      · refine v_pick [1, 2, 3, 4, 5, 6, 7, 8, 9, 10, 11, 12, 13, 14, 15, 16, 17, 18, 0] (w' := wL ad ao G (T, n, mo, ver) (S, h) P Tr Rg ((co, len)) Rd O) rfl rfl rfl ?_
        refine v_astore (lv' := [(5, .ref q9), (0, .ref (ad 0)), (1, .int line), (2, .int pl), (3, .int sl), (4, .ref ao)]) F dL_turn_23 (by decide) rfl ?_
        refine v_iconst (v := nI 3) F dL_turn_25 (by decide) ?_
        exact v_iret F hr hlk hQ dL_turn_26 ((T, n, mo, ver), (S, h), P, Tr, Rg, ((co, len)), Rd, O) rfl (HPM_x hc (by decide))
  · obtain ⟨hc, hv⟩ := hw
    refine v_pick [1, 2, 3, 4, 5, 6, 7, 8, 9, 10, 11, 12, 13, 14, 15, 16, 17, 18, 0] (w' := wL ad ao G (upd (upd T ((line.toNatClampNeg * 6) + 0) sl) ((line.toNatClampNeg * 6) + 1) (tuV T line pl sl), n, mo, ver + 2) (pSave S h T n mo, pSaveH h) P Tr Rg ((co, len)) Rd O) rfl rfl rfl ?_
    refine v_i2l F dL_turn_10 ?_
    refine v_lastN F dL_turn_11 18 rfl 0 rfl (by decide) (by decide) (wL ad ao G (upd (upd T ((line.toNatClampNeg * 6) + 0) sl) ((line.toNatClampNeg * 6) + 1) (tuV T line pl sl), n, mo, ver + 2) (pSave S h T n mo, pSaveH h) P Tr Rg ((co, len)) Rd (vp_updL O 0 r.toInt64)) rfl ?_
    refine v_goto F 27 dL_turn_12 (by decide) ?_
    refine v_iconst (v := nI 0) F dL_turn_27 (by decide) ?_
    exact v_iret F hr hlk hQ dL_turn_28 ((upd (upd T ((line.toNatClampNeg * 6) + 0) sl) ((line.toNatClampNeg * 6) + 1) (tuV T line pl sl), n, mo, ver + 2), (pSave S h T n mo, pSaveH h), P, Tr, Rg, ((co, len)), Rd, vp_updL O 0 r.toInt64) rfl (HPM_0 hc hv)
theorem wCW_remove : Cond.codeWith yL_remove cL_remove 4 (some .int) [(0, 9, 12, 21)] ∈ GW := tk4 (i := 5) (by decide +kernel) (by decide +kernel)
theorem ch_remove : CSH RL 114 yL_remove cL_remove 4 [(0, 9, 12, 21)] 3 := ⟨wCW_remove, wM_RL_114, wSt_yL_remove, wI_RL, by decide +kernel, by decide⟩
theorem cs_RL_32 : CSV RL 32 RX7 yX7_remove cX7_remove 2 (some .int) 1 := ⟨wC_yX7_remove, wM_RL_32, wIm_yX7_remove, wSe_yX7_remove, wI_RX7, by decide +kernel, by decide⟩
set_option maxHeartbeats 1000000 in
set_option maxRecDepth 100000 in
theorem h_remove (lau : Launch) (G : GT) (ad : Nat → Nat) (ao : Nat) (T : Nat → Int32) (n mo ver : Nat) (S : Nat → Int32) (h : Nat) (P : PT) (Tr : TT) (Rg : RT) (co : Nat → Int32) (len : Nat) (Rd : DT) (O : Nat → Int64) (line : Int32)  (K : Nat) (I : LIV K T n mo ver S h P Tr Rg co len Rd) (hst : lau.stackTraces = false) : HM lau G 17 yL_remove cL_remove 4 [(0, 9, 12, 21)] [.ref (ad 0), .int line, .ref ao] (wL ad ao G (T, n, mo, ver) (S, h) P Tr Rg (co, len) Rd O) (fun u : SU => wL ad ao G u.1 u.2.1 u.2.2.1 u.2.2.2.1 u.2.2.2.2.1 u.2.2.2.2.2.1 u.2.2.2.2.2.2.1 u.2.2.2.2.2.2.2) (fun r u => HPM (xRem n line) (nI (n - 1)) (T, n, mo, ver) (S, h) P Tr Rg (co, len) Rd (pDrop T n line.toNatClampNeg, n - 1, mo, ver + 1) (pSave S h T n mo, pSaveH h) ((co, len)) Rd r u) := by
  refine hm_of (by decide +kernel) (Nat.le_of_ble_eq_true rfl) ?_
  intro p e s m args below meth c A Q F hr hlk hQ hSF hSH hNC htab
  refine v_st (w' := wL ad ao G (T, n, mo, ver) (S, h) P Tr Rg (co, len) Rd O) (pc' := 0) (st' := []) rfl rfl rfl [0, 1, 2] (lv' := [(0, .ref (ad 0)), (1, .int line), (2, .ref ao)]) rfl ?_
  refine v_aload_n F dL_remove_0 2 rfl rfl ?_
  refine v_iconst (v := nI 0) F dL_remove_1 (by decide) ?_
  refine v_aload_n F dL_remove_2 0 rfl rfl ?_
  refine v_iload_n F dL_remove_3 1 rfl rfl ?_
  refine v_cVX F hSF hSH cs_RL_32 dL_remove_4 0 (ci := 7) rfl rfl [0, 1, 2, 3, 4, 5, 6, 7, 8, 9, 10, 11, 12, 13, 14, 15, 16, 17] [18] (wc := wC ad G (T, n, mo, ver) (S, h) P Tr Rg (co, len) Rd) (wr := [(ao, .inl (G.2.2.2, 1, .inr (.inl O)))]) rfl rfl rfl rfl rfl (by decide) (x_X7_remove lau G ad T n mo ver S h P Tr Rg (co, len) Rd line I.1 I.2.2.2.1 hst) (by decide) rfl rfl (Nat.le_of_ble_eq_true rfl) ⟨(Nat.le_of_ble_eq_true rfl), (Nat.le_of_ble_eq_true rfl)⟩ (fun E u hpx => ?_) (fun r u hw => ?_)
  · obtain ⟨hc, rfl⟩ := hpx
    refine ⟨[], ⟨0, 9, 12, 21⟩, [], sIOB, by rw [htab]; rfl, ?_, rfl, by decide, F.2.2.2.2.1 _ wL_RL_21, va_Nw.use rfl (hSF.1 _ (by simp [BW])), fun q9 => ?_⟩
    · intro z hz; exact absurd hz List.not_mem_nil
    · refine v_pick [1, 2, 3, 4, 5, 6, 7, 8, 9, 10, 11, 12, 13, 14, 15, 16, 17, 18, 0] (w' := wL ad ao G (T, n, mo, ver) (S, h) P Tr Rg ((co, len)) Rd O) rfl rfl rfl ?_
      refine v_astore_n (lv' := [(3, .ref q9), (0, .ref (ad 0)), (1, .int line), (2, .ref ao)]) F dL_remove_12 3 rfl (by decide) rfl ?_
      refine v_iconst (v := nI 1) F dL_remove_13 (by decide) ?_
      exact v_iret F hr hlk hQ dL_remove_14 ((T, n, mo, ver), (S, h), P, Tr, Rg, ((co, len)), Rd, O) rfl (HPM_x hc (by decide))
  · obtain ⟨hc, hv⟩ := hw
    refine v_pick [1, 2, 3, 4, 5, 6, 7, 8, 9, 10, 11, 12, 13, 14, 15, 16, 17, 18, 0] (w' := wL ad ao G (pDrop T n line.toNatClampNeg, n - 1, mo, ver + 1) (pSave S h T n mo, pSaveH h) P Tr Rg ((co, len)) Rd O) rfl rfl rfl ?_
    refine v_i2l F dL_remove_7 ?_
    refine v_lastN F dL_remove_8 18 rfl 0 rfl (by decide) (by decide) (wL ad ao G (pDrop T n line.toNatClampNeg, n - 1, mo, ver + 1) (pSave S h T n mo, pSaveH h) P Tr Rg ((co, len)) Rd (vp_updL O 0 r.toInt64)) rfl ?_
    refine v_goto F 15 dL_remove_9 (by decide) ?_
    refine v_iconst (v := nI 0) F dL_remove_15 (by decide) ?_
    exact v_iret F hr hlk hQ dL_remove_16 ((pDrop T n line.toNatClampNeg, n - 1, mo, ver + 1), (pSave S h T n mo, pSaveH h), P, Tr, Rg, ((co, len)), Rd, vp_updL O 0 r.toInt64) rfl (HPM_0 hc hv)
theorem wCW_go : Cond.codeWith yL_go cL_go 4 (some .int) [(0, 9, 12, 13)] ∈ GW := tk4 (i := 12) (by decide +kernel) (by decide +kernel)
theorem ch_go : CSH RL 122 yL_go cL_go 4 [(0, 9, 12, 13)] 3 := ⟨wCW_go, wM_RL_122, wSt_yL_go, wI_RL, by decide +kernel, by decide⟩
theorem cs_RL_36 : CSV RL 36 RX7 yX7_go cX7_go 3 (some .int) 1 := ⟨wC_yX7_go, wM_RL_36, wIm_yX7_go, wSe_yX7_go, wI_RX7, by decide +kernel, by decide⟩
set_option maxHeartbeats 1000000 in
set_option maxRecDepth 100000 in
theorem h_go (lau : Launch) (G : GT) (ad : Nat → Nat) (ao : Nat) (T : Nat → Int32) (n mo ver : Nat) (S : Nat → Int32) (h : Nat) (P : PT) (Tr : TT) (Rg : RT) (co : Nat → Int32) (len : Nat) (Rd : DT) (O : Nat → Int64) (mm : Int32)  (K : Nat) (I : LIV K T n mo ver S h P Tr Rg co len Rd) (hst : lau.stackTraces = false) : HM lau G 17 yL_go cL_go 4 [(0, 9, 12, 13)] [.ref (ad 0), .int mm, .ref ao] (wL ad ao G (T, n, mo, ver) (S, h) P Tr Rg (co, len) Rd O) (fun u : SU => wL ad ao G u.1 u.2.1 u.2.2.1 u.2.2.2.1 u.2.2.2.2.1 u.2.2.2.2.2.1 u.2.2.2.2.2.2.1 u.2.2.2.2.2.2.2) (fun r u => HPM (xGo mm) (nI mo) (T, n, mo, ver) (S, h) P Tr Rg (co, len) Rd (T, n, mm.toNatClampNeg, ver + 1) (pSave S h T n mo, pSaveH h) ((co, len)) Rd r u) := by
  refine hm_of (by decide +kernel) (Nat.le_of_ble_eq_true rfl) ?_
  intro p e s m args below meth c A Q F hr hlk hQ hSF hSH hNC htab
  refine v_st (w' := wL ad ao G (T, n, mo, ver) (S, h) P Tr Rg (co, len) Rd O) (pc' := 0) (st' := []) rfl rfl rfl [0, 1, 2] (lv' := [(0, .ref (ad 0)), (1, .int mm), (2, .ref ao)]) rfl ?_
  refine v_aload_n F dL_go_0 2 rfl rfl ?_
  refine v_iconst (v := nI 0) F dL_go_1 (by decide) ?_
  refine v_aload_n F dL_go_2 0 rfl rfl ?_
  refine v_iload_n F dL_go_3 1 rfl rfl ?_
  refine v_cVX F hSF hSH cs_RL_36 dL_go_4 0 (ci := 7) rfl rfl [0, 1, 2, 3, 4, 5, 6, 7, 8, 9, 10, 11, 12, 13, 14, 15, 16, 17] [18] (wc := wC ad G (T, n, mo, ver) (S, h) P Tr Rg (co, len) Rd) (wr := [(ao, .inl (G.2.2.2, 1, .inr (.inl O)))]) rfl rfl rfl rfl rfl (by decide) (x_X7_go lau G ad T n mo ver S h P Tr Rg (co, len) Rd mm I.1 I.2.2.2.1 hst) (by decide) rfl rfl (Nat.le_of_ble_eq_true rfl) ⟨(Nat.le_of_ble_eq_true rfl), (Nat.le_of_ble_eq_true rfl)⟩ (fun E u hpx => ?_) (fun r u hw => ?_)
  · obtain ⟨hc, rfl⟩ := hpx
    refine ⟨[], ⟨0, 9, 12, 13⟩, [], sIAE, by rw [htab]; rfl, ?_, rfl, by decide, F.2.2.2.2.1 _ wL_RL_13, va_Nw.use rfl (hSF.1 _ (by simp [BW])), fun q9 => ?_⟩
    · intro z hz; exact absurd hz List.not_mem_nil
    · refine v_pick [1, 2, 3, 4, 5, 6, 7, 8, 9, 10, 11, 12, 13, 14, 15, 16, 17, 18, 0] (w' := wL ad ao G (T, n, mo, ver) (S, h) P Tr Rg ((co, len)) Rd O) rfl rfl rfl ?_
      refine v_astore_n (lv' := [(3, .ref q9), (0, .ref (ad 0)), (1, .int mm), (2, .ref ao)]) F dL_go_12 3 rfl (by decide) rfl ?_
      refine v_iconst (v := nI 1) F dL_go_13 (by decide) ?_
      exact v_iret F hr hlk hQ dL_go_14 ((T, n, mo, ver), (S, h), P, Tr, Rg, ((co, len)), Rd, O) rfl (HPM_x hc (by decide))
  · obtain ⟨hc, hv⟩ := hw
    refine v_pick [1, 2, 3, 4, 5, 6, 7, 8, 9, 10, 11, 12, 13, 14, 15, 16, 17, 18, 0] (w' := wL ad ao G (T, n, mm.toNatClampNeg, ver + 1) (pSave S h T n mo, pSaveH h) P Tr Rg ((co, len)) Rd O) rfl rfl rfl ?_
    refine v_i2l F dL_go_7 ?_
    refine v_lastN F dL_go_8 18 rfl 0 rfl (by decide) (by decide) (wL ad ao G (T, n, mm.toNatClampNeg, ver + 1) (pSave S h T n mo, pSaveH h) P Tr Rg ((co, len)) Rd (vp_updL O 0 r.toInt64)) rfl ?_
    refine v_goto F 15 dL_go_9 (by decide) ?_
    refine v_iconst (v := nI 0) F dL_go_15 (by decide) ?_
    exact v_iret F hr hlk hQ dL_go_16 ((T, n, mm.toNatClampNeg, ver + 1), (pSave S h T n mo, pSaveH h), P, Tr, Rg, ((co, len)), Rd, vp_updL O 0 r.toInt64) rfl (HPM_0 hc hv)
theorem wCW_append : Cond.codeWith yL_append cL_append 4 (some .int) [(0, 9, 12, 13), (0, 9, 15, 15)] ∈ GW := tk4 (i := 24) (by decide +kernel) (by decide +kernel)
theorem ch_append : CSH RL 125 yL_append cL_append 4 [(0, 9, 12, 13), (0, 9, 15, 15)] 3 := ⟨wCW_append, wM_RL_125, wSt_yL_append, wI_RL, by decide +kernel, by decide⟩
theorem cs_RL_39 : CSV RL 39 RX7 yX7_append cX7_append 2 (some .int) 1 := ⟨wC_yX7_append, wM_RL_39, wIm_yX7_append, wSe_yX7_append, wI_RX7, by decide +kernel, by decide⟩
set_option maxHeartbeats 1000000 in
set_option maxRecDepth 100000 in
theorem h_append (lau : Launch) (G : GT) (ad : Nat → Nat) (ao : Nat) (T : Nat → Int32) (n mo ver : Nat) (S : Nat → Int32) (h : Nat) (P : PT) (Tr : TT) (Rg : RT) (co : Nat → Int32) (len : Nat) (Rd : DT) (O : Nat → Int64) (code : Int32)  (K : Nat) (I : LIV K T n mo ver S h P Tr Rg co len Rd) (hst : lau.stackTraces = false) : HM lau G 17 yL_append cL_append 4 [(0, 9, 12, 13), (0, 9, 15, 15)] [.ref (ad 0), .int code, .ref ao] (wL ad ao G (T, n, mo, ver) (S, h) P Tr Rg (co, len) Rd O) (fun u : SU => wL ad ao G u.1 u.2.1 u.2.2.1 u.2.2.2.1 u.2.2.2.2.1 u.2.2.2.2.2.1 u.2.2.2.2.2.2.1 u.2.2.2.2.2.2.2) (fun r u => HPM (xApp len code) (nI (len + 1)) (T, n, mo, ver) (S, h) P Tr Rg (co, len) Rd ((T, n, mo, ver)) ((S, h)) (upd co len code, len + 1) Rd r u) := by
  refine hm_of (by decide +kernel) (Nat.le_of_ble_eq_true rfl) ?_
  intro p e s m args below meth c A Q F hr hlk hQ hSF hSH hNC htab
  refine v_st (w' := wL ad ao G (T, n, mo, ver) (S, h) P Tr Rg (co, len) Rd O) (pc' := 0) (st' := []) rfl rfl rfl [0, 1, 2] (lv' := [(0, .ref (ad 0)), (1, .int code), (2, .ref ao)]) rfl ?_
  refine v_aload_n F dL_append_0 2 rfl rfl ?_
  refine v_iconst (v := nI 0) F dL_append_1 (by decide) ?_
  refine v_aload_n F dL_append_2 0 rfl rfl ?_
  refine v_iload_n F dL_append_3 1 rfl rfl ?_
  refine v_cVX F hSF hSH cs_RL_39 dL_append_4 0 (ci := 7) rfl rfl [0, 1, 2, 3, 4, 5, 6, 7, 8, 9, 10, 11, 12, 13, 14, 15, 16, 17] [18] (wc := wC ad G (T, n, mo, ver) (S, h) P Tr Rg (co, len) Rd) (wr := [(ao, .inl (G.2.2.2, 1, .inr (.inl O)))]) rfl rfl rfl rfl rfl (by decide) (x_X7_append lau G ad (T, n, mo, ver) (S, h) P Tr Rg co len Rd code I.2.2.2.2.2.1 hst) (by decide) rfl rfl (Nat.le_of_ble_eq_true rfl) ⟨(Nat.le_of_ble_eq_true rfl), (Nat.le_of_ble_eq_true rfl)⟩ (fun E u hpx => ?_) (fun r u hw => ?_)
  · rcases hpx with ⟨hc, rfl⟩ | ⟨hc, rfl⟩
    · refine ⟨[], ⟨0, 9, 12, 13⟩, [⟨0, 9, 15, 15⟩], sIAE, by rw [htab]; rfl, ?_, rfl, by decide, F.2.2.2.2.1 _ wL_RL_13, va_Nw.use rfl (hSF.1 _ (by simp [BW])), fun q9 => ?_⟩
      · intro z hz; exact absurd hz List.not_mem_nil
      · refine v_pick [1, 2, 3, 4, 5, 6, 7, 8, 9, 10, 11, 12, 13, 14, 15, 16, 17, 18, 0] (w' := wL ad ao G ((T, n, mo, ver)) ((S, h)) P Tr Rg (co, len) Rd O) rfl rfl rfl ?_
        refine v_astore_n (lv' := [(3, .ref q9), (0, .ref (ad 0)), (1, .int code), (2, .ref ao)]) F dL_append_12 3 rfl (by decide) rfl ?_
        refine v_iconst (v := nI 1) F dL_append_13 (by decide) ?_
        exact v_iret F hr hlk hQ dL_append_14 (((T, n, mo, ver)), ((S, h)), P, Tr, Rg, (co, len), Rd, O) rfl (HPM_x hc (by decide))
    · refine ⟨[⟨0, 9, 12, 13⟩], ⟨0, 9, 15, 15⟩, [], sISE, by rw [htab]; rfl, ?_, rfl, by decide, F.2.2.2.2.1 _ wL_RL_15, va_Nw.use rfl (hSF.1 _ (by simp [BW])), fun q9 => ?_⟩
      · intro z hz
        simp only [List.mem_cons, List.not_mem_nil, or_false] at hz
        subst hz
        exact Or.inr ⟨by decide, sIAE, F.2.2.2.2.1 _ wL_RL_13, hNC (sISE, sIAE) (by simp [NCP])⟩
      · refine v_pick [1, 2, 3, 4, 5, 6, 7, 8, 9, 10, 11, 12, 13, 14, 15, 16, 17, 18, 0] (w' := wL ad ao G ((T, n, mo, ver)) ((S, h)) P Tr Rg (co, len) Rd O) rfl rfl rfl ?_
        refine v_astore_n (lv' := [(3, .ref q9), (0, .ref (ad 0)), (1, .int code), (2, .ref ao)]) F dL_append_15 3 rfl (by decide) rfl ?_
        refine v_iconst (v := nI 2) F dL_append_16 (by decide) ?_
        exact v_iret F hr hlk hQ dL_append_17 (((T, n, mo, ver)), ((S, h)), P, Tr, Rg, (co, len), Rd, O) rfl (HPM_x hc (by decide))
  · obtain ⟨hc, hv⟩ := hw
    refine v_pick [1, 2, 3, 4, 5, 6, 7, 8, 9, 10, 11, 12, 13, 14, 15, 16, 17, 18, 0] (w' := wL ad ao G ((T, n, mo, ver)) ((S, h)) P Tr Rg (upd co len code, len + 1) Rd O) rfl rfl rfl ?_
    refine v_i2l F dL_append_7 ?_
    refine v_lastN F dL_append_8 18 rfl 0 rfl (by decide) (by decide) (wL ad ao G ((T, n, mo, ver)) ((S, h)) P Tr Rg (upd co len code, len + 1) Rd (vp_updL O 0 r.toInt64)) rfl ?_
    refine v_goto F 18 dL_append_9 (by decide) ?_
    refine v_iconst (v := nI 0) F dL_append_18 (by decide) ?_
    exact v_iret F hr hlk hQ dL_append_19 (((T, n, mo, ver)), ((S, h)), P, Tr, Rg, (upd co len code, len + 1), Rd, vp_updL O 0 r.toInt64) rfl (HPM_0 hc hv)
theorem wCW_addAll : Cond.codeWith yL_addAll cL_addAll 3 (some .int) [(0, 8, 11, 13), (0, 8, 14, 15)] ∈ GW := tk4 (i := 37) (by decide +kernel) (by decide +kernel)
theorem ch_addAll : CSH RL 136 yL_addAll cL_addAll 3 [(0, 8, 11, 13), (0, 8, 14, 15)] 2 := ⟨wCW_addAll, wM_RL_136, wSt_yL_addAll, wI_RL, by decide +kernel, by decide⟩
theorem cs_RL_42 : CSV RL 42 RX7 yX7_addAll cX7_addAll 1 (some .int) 0 := ⟨wC_yX7_addAll, wM_RL_42, wIm_yX7_addAll, wSe_yX7_addAll, wI_RX7, by decide +kernel, by decide⟩
set_option maxHeartbeats 1000000 in
set_option maxRecDepth 100000 in
theorem h_addAll (lau : Launch) (G : GT) (ad : Nat → Nat) (ao : Nat) (T : Nat → Int32) (n mo ver : Nat) (S : Nat → Int32) (h : Nat) (P : PT) (Tr : TT) (Rg : RT) (co : Nat → Int32) (len : Nat) (Rd : DT) (O : Nat → Int64)  (K : Nat) (I : LIV K T n mo ver S h P Tr Rg co len Rd) (hst : lau.stackTraces = false) : HM lau G 17 yL_addAll cL_addAll 3 [(0, 8, 11, 13), (0, 8, 14, 15)] [.ref (ad 0), .ref ao] (wL ad ao G (T, n, mo, ver) (S, h) P Tr Rg (co, len) Rd O) (fun u : SU => wL ad ao G u.1 u.2.1 u.2.2.1 u.2.2.2.1 u.2.2.2.2.1 u.2.2.2.2.2.1 u.2.2.2.2.2.2.1 u.2.2.2.2.2.2.2) (fun r u => HPM (xAll n Rd co len) (nI (n + (sc co len + 1))) (T, n, mo, ver) (S, h) P Tr Rg (co, len) (rRun Rd co (min (rErr Rd co len + 1) len)) (rWs (rRun Rd co (min (rErr Rd co len + 1) len)) co T n len, n + (sc co len + 1), mo, ver + 6 * (sc co len + 1)) (pSave S h T n mo, pSaveH h) (co, 0) (rRun (rRun Rd co (min (rErr Rd co len + 1) len)) co len) r u) := by
  refine hm_of (by decide +kernel) (Nat.le_of_ble_eq_true rfl) ?_
  intro p e s m args below meth c A Q F hr hlk hQ hSF hSH hNC htab
  refine v_st (w' := wL ad ao G (T, n, mo, ver) (S, h) P Tr Rg (co, len) Rd O) (pc' := 0) (st' := []) rfl rfl rfl [0, 1] (lv' := [(0, .ref (ad 0)), (1, .ref ao)]) rfl ?_
  refine v_aload_n F dL_addAll_0 1 rfl rfl ?_
  refine v_iconst (v := nI 0) F dL_addAll_1 (by decide) ?_
  refine v_aload_n F dL_addAll_2 0 rfl rfl ?_
  refine v_cVX F hSF hSH cs_RL_42 dL_addAll_3 0 (ci := 7) rfl rfl [0, 1, 2, 3, 4, 5, 6, 7, 8, 9, 10, 11, 12, 13, 14, 15, 16, 17] [18] (wc := wC ad G (T, n, mo, ver) (S, h) P Tr Rg (co, len) Rd) (wr := [(ao, .inl (G.2.2.2, 1, .inr (.inl O)))]) rfl rfl rfl rfl rfl (by decide) (x_X7_addAll lau G ad T n mo ver S h P Tr Rg co len Rd I.2.2.2.2.2.1 I.2.2.2.2.2.2.1 I.1 I.2.2.2.1 hst) (by decide) rfl rfl (Nat.le_of_ble_eq_true rfl) ⟨(Nat.le_of_ble_eq_true rfl), (Nat.le_of_ble_eq_true rfl)⟩ (fun E u hpx => ?_) (fun r u hw => ?_)
  · rcases hpx with ⟨hc, rfl⟩ | ⟨hc, rfl⟩
    · refine ⟨[], ⟨0, 8, 11, 13⟩, [⟨0, 8, 14, 15⟩], sIAE, by rw [htab]; rfl, ?_, rfl, by decide, F.2.2.2.2.1 _ wL_RL_13, va_Nw.use rfl (hSF.1 _ (by simp [BW])), fun q9 => ?_⟩
      · intro z hz; exact absurd hz List.not_mem_nil
      · refine v_pick [1, 2, 3, 4, 5, 6, 7, 8, 9, 10, 11, 12, 13, 14, 15, 16, 17, 18, 0] (w' := wL ad ao G (T, n, mo, ver) (S, h) P Tr Rg (co, len) (rRun Rd co (min (rErr Rd co len + 1) len)) O) rfl rfl rfl ?_
        refine v_astore_n (lv' := [(2, .ref q9), (0, .ref (ad 0)), (1, .ref ao)]) F dL_addAll_11 2 rfl (by decide) rfl ?_
        refine v_iconst (v := nI 1) F dL_addAll_12 (by decide) ?_
        exact v_iret F hr hlk hQ dL_addAll_13 ((T, n, mo, ver), (S, h), P, Tr, Rg, (co, len), (rRun Rd co (min (rErr Rd co len + 1) len)), O) rfl (HPM_x hc (by decide))
    · refine ⟨[⟨0, 8, 11, 13⟩], ⟨0, 8, 14, 15⟩, [], sISE, by rw [htab]; rfl, ?_, rfl, by decide, F.2.2.2.2.1 _ wL_RL_15, va_Nw.use rfl (hSF.1 _ (by simp [BW])), fun q9 => ?_⟩
      · intro z hz
        simp only [List.mem_cons, List.not_mem_nil, or_false] at hz
        subst hz
        exact Or.inr ⟨by decide, sIAE, F.2.2.2.2.1 _ wL_RL_13, hNC (sISE, sIAE) (by simp [NCP])⟩
      · refine v_pick [1, 2, 3, 4, 5, 6, 7, 8, 9, 10, 11, 12, 13, 14, 15, 16, 17, 18, 0] (w' := wL ad ao G (T, n, mo, ver) (S, h) P Tr Rg (co, len) (rRun Rd co (min (rErr Rd co len + 1) len)) O) rfl rfl rfl ?_
        refine v_astore_n (lv' := [(2, .ref q9), (0, .ref (ad 0)), (1, .ref ao)]) F dL_addAll_14 2 rfl (by decide) rfl ?_
        refine v_iconst (v := nI 2) F dL_addAll_15 (by decide) ?_
        exact v_iret F hr hlk hQ dL_addAll_16 ((T, n, mo, ver), (S, h), P, Tr, Rg, (co, len), (rRun Rd co (min (rErr Rd co len + 1) len)), O) rfl (HPM_x hc (by decide))
  · obtain ⟨hc, hv⟩ := hw
    refine v_pick [1, 2, 3, 4, 5, 6, 7, 8, 9, 10, 11, 12, 13, 14, 15, 16, 17, 18, 0] (w' := wL ad ao G (rWs (rRun Rd co (min (rErr Rd co len + 1) len)) co T n len, n + (sc co len + 1), mo, ver + 6 * (sc co len + 1)) (pSave S h T n mo, pSaveH h) P Tr Rg (co, 0) (rRun (rRun Rd co (min (rErr Rd co len + 1) len)) co len) O) rfl rfl rfl ?_
    refine v_i2l F dL_addAll_6 ?_
    refine v_lastN F dL_addAll_7 18 rfl 0 rfl (by decide) (by decide) (wL ad ao G (rWs (rRun Rd co (min (rErr Rd co len + 1) len)) co T n len, n + (sc co len + 1), mo, ver + 6 * (sc co len + 1)) (pSave S h T n mo, pSaveH h) P Tr Rg (co, 0) (rRun (rRun Rd co (min (rErr Rd co len + 1) len)) co len) (vp_updL O 0 r.toInt64)) rfl ?_
    refine v_goto F 17 dL_addAll_8 (by decide) ?_
    refine v_iconst (v := nI 0) F dL_addAll_17 (by decide) ?_
    exact v_iret F hr hlk hQ dL_addAll_18 ((rWs (rRun Rd co (min (rErr Rd co len + 1) len)) co T n len, n + (sc co len + 1), mo, ver + 6 * (sc co len + 1)), (pSave S h T n mo, pSaveH h), P, Tr, Rg, (co, 0), (rRun (rRun Rd co (min (rErr Rd co len + 1) len)) co len), vp_updL O 0 r.toInt64) rfl (HPM_0 hc hv)
theorem wCW_undo : Cond.codeWith yL_undo cL_undo 3 (some .int) [(0, 8, 11, 15)] ∈ GW := tk4 (i := 65) (by decide +kernel) (by decide +kernel)
theorem ch_undo : CSH RL 140 yL_undo cL_undo 3 [(0, 8, 11, 15)] 2 := ⟨wCW_undo, wM_RL_140, wSt_yL_undo, wI_RL, by decide +kernel, by decide⟩
theorem cs_RL_46 : CSV RL 46 RX7 yX7_undo cX7_undo 1 (some .int) 0 := ⟨wC_yX7_undo, wM_RL_46, wIm_yX7_undo, wSe_yX7_undo, wI_RX7, by decide +kernel, by decide⟩
set_option maxHeartbeats 1000000 in
set_option maxRecDepth 100000 in
theorem h_undo (lau : Launch) (G : GT) (ad : Nat → Nat) (ao : Nat) (T : Nat → Int32) (n mo ver : Nat) (S : Nat → Int32) (h : Nat) (P : PT) (Tr : TT) (Rg : RT) (co : Nat → Int32) (len : Nat) (Rd : DT) (O : Nat → Int64) (n' : Nat) (mo' : Nat) (hn' : 0 < h → S ((h - 1) * 122 + 1) = nI n') (hmo' : 0 < h → S ((h - 1) * 122) = nI mo') (K : Nat) (I : LIV K T n mo ver S h P Tr Rg co len Rd) (hst : lau.stackTraces = false) : HM lau G 17 yL_undo cL_undo 3 [(0, 8, 11, 15)] [.ref (ad 0), .ref ao] (wL ad ao G (T, n, mo, ver) (S, h) P Tr Rg (co, len) Rd O) (fun u : SU => wL ad ao G u.1 u.2.1 u.2.2.1 u.2.2.2.1 u.2.2.2.2.1 u.2.2.2.2.2.1 u.2.2.2.2.2.2.1 u.2.2.2.2.2.2.2) (fun r u => HPM (xUndo h) (nI (h - 1)) (T, n, mo, ver) (S, h) P Tr Rg (co, len) Rd (va_cpy S T ((h - 1) * 122 + 2) 0 120, n', mo', ver + 1) (S, h - 1) ((co, len)) Rd r u) := by
  refine hm_of (by decide +kernel) (Nat.le_of_ble_eq_true rfl) ?_
  intro p e s m args below meth c A Q F hr hlk hQ hSF hSH hNC htab
  refine v_st (w' := wL ad ao G (T, n, mo, ver) (S, h) P Tr Rg (co, len) Rd O) (pc' := 0) (st' := []) rfl rfl rfl [0, 1] (lv' := [(0, .ref (ad 0)), (1, .ref ao)]) rfl ?_
  refine v_aload_n F dL_undo_0 1 rfl rfl ?_
  refine v_iconst (v := nI 0) F dL_undo_1 (by decide) ?_
  refine v_aload_n F dL_undo_2 0 rfl rfl ?_
  refine v_cVX F hSF hSH cs_RL_46 dL_undo_3 0 (ci := 7) rfl rfl [0, 1, 2, 3, 4, 5, 6, 7, 8, 9, 10, 11, 12, 13, 14, 15, 16, 17] [18] (wc := wC ad G (T, n, mo, ver) (S, h) P Tr Rg (co, len) Rd) (wr := [(ao, .inl (G.2.2.2, 1, .inr (.inl O)))]) rfl rfl rfl rfl rfl (by decide) (x_X7_undo lau G ad T n mo ver S h P Tr Rg (co, len) Rd n' mo' I.2.2.2.1 hn' hmo' hst) (by decide) rfl rfl (Nat.le_of_ble_eq_true rfl) ⟨(Nat.le_of_ble_eq_true rfl), (Nat.le_of_ble_eq_true rfl)⟩ (fun E u hpx => ?_) (fun r u hw => ?_)
  · obtain ⟨hc, rfl⟩ := hpx
    refine ⟨[], ⟨0, 8, 11, 15⟩, [], sISE, by rw [htab]; rfl, ?_, rfl, by decide, F.2.2.2.2.1 _ wL_RL_15, va_Nw.use rfl (hSF.1 _ (by simp [BW])), fun q9 => ?_⟩
    · intro z hz; exact absurd hz List.not_mem_nil
    · refine v_pick [1, 2, 3, 4, 5, 6, 7, 8, 9, 10, 11, 12, 13, 14, 15, 16, 17, 18, 0] (w' := wL ad ao G (T, n, mo, ver) (S, h) P Tr Rg ((co, len)) Rd O) rfl rfl rfl ?_
      refine v_astore_n (lv' := [(2, .ref q9), (0, .ref (ad 0)), (1, .ref ao)]) F dL_undo_11 2 rfl (by decide) rfl ?_
      refine v_iconst (v := nI 1) F dL_undo_12 (by decide) ?_
      exact v_iret F hr hlk hQ dL_undo_13 ((T, n, mo, ver), (S, h), P, Tr, Rg, ((co, len)), Rd, O) rfl (HPM_x hc (by decide))
  · obtain ⟨hc, hv⟩ := hw
    refine v_pick [1, 2, 3, 4, 5, 6, 7, 8, 9, 10, 11, 12, 13, 14, 15, 16, 17, 18, 0] (w' := wL ad ao G (va_cpy S T ((h - 1) * 122 + 2) 0 120, n', mo', ver + 1) (S, h - 1) P Tr Rg ((co, len)) Rd O) rfl rfl rfl ?_
    refine v_i2l F dL_undo_6 ?_
    refine v_lastN F dL_undo_7 18 rfl 0 rfl (by decide) (by decide) (wL ad ao G (va_cpy S T ((h - 1) * 122 + 2) 0 120, n', mo', ver + 1) (S, h - 1) P Tr Rg ((co, len)) Rd (vp_updL O 0 r.toInt64)) rfl ?_
    refine v_goto F 14 dL_undo_8 (by decide) ?_
    refine v_iconst (v := nI 0) F dL_undo_14 (by decide) ?_
    exact v_iret F hr hlk hQ dL_undo_15 ((va_cpy S T ((h - 1) * 122 + 2) 0 120, n', mo', ver + 1), (S, h - 1), P, Tr, Rg, ((co, len)), Rd, vp_updL O 0 r.toInt64) rfl (HPM_0 hc hv)
theorem wCW_line : Cond.codeWith yL_line cL_line 5 (some .int) [(0, 10, 13, 21), (0, 10, 17, 13)] ∈ GW := tk4 (i := 81) (by decide +kernel) (by decide +kernel)
theorem ch_line : CSH RL 143 yL_line cL_line 5 [(0, 10, 13, 21), (0, 10, 17, 13)] 4 := ⟨wCW_line, wM_RL_143, wSt_yL_line, wI_RL, by decide +kernel, by decide⟩
theorem cs_RL_49 : CSV RL 49 RX7 yX7_line cX7_line 3 (some .int) 2 := ⟨wC_yX7_line, wM_RL_49, wIm_yX7_line, wSe_yX7_line, wI_RX7, by decide +kernel, by decide⟩
set_option maxHeartbeats 1000000 in
set_option maxRecDepth 100000 in
theorem h_line (lau : Launch) (G : GT) (ad : Nat → Nat) (ao : Nat) (T : Nat → Int32) (n mo ver : Nat) (S : Nat → Int32) (h : Nat) (P : PT) (Tr : TT) (Rg : RT) (co : Nat → Int32) (len : Nat) (Rd : DT) (O : Nat → Int64) (line wh : Int32)  (K : Nat) (I : LIV K T n mo ver S h P Tr Rg co len Rd) (hst : lau.stackTraces = false) : HM lau G 17 yL_line cL_line 5 [(0, 10, 13, 21), (0, 10, 17, 13)] [.ref (ad 0), .int line, .int wh, .ref ao] (wL ad ao G (T, n, mo, ver) (S, h) P Tr Rg (co, len) Rd O) (fun u : SU => wL ad ao G u.1 u.2.1 u.2.2.1 u.2.2.2.1 u.2.2.2.2.1 u.2.2.2.2.2.1 u.2.2.2.2.2.2.1 u.2.2.2.2.2.2.2) (fun r u => HPO (xLine n line wh) (linV T n mo line.toNatClampNeg wh.toNatClampNeg) T n mo ver (S, h) (co, len) Rd r u) := by
  refine hm_of (by decide +kernel) (Nat.le_of_ble_eq_true rfl) ?_
  intro p e s m args below meth c A Q F hr hlk hQ hSF hSH hNC htab
  refine v_st (w' := wL ad ao G (T, n, mo, ver) (S, h) P Tr Rg (co, len) Rd O) (pc' := 0) (st' := []) rfl rfl rfl [0, 1, 2, 3] (lv' := [(0, .ref (ad 0)), (1, .int line), (2, .int wh), (3, .ref ao)]) rfl ?_
  refine v_aload_n F dL_line_0 3 rfl rfl ?_
  refine v_iconst (v := nI 0) F dL_line_1 (by decide) ?_
  refine v_aload_n F dL_line_2 0 rfl rfl ?_
  refine v_iload_n F dL_line_3 1 rfl rfl ?_
  refine v_iload_n F dL_line_4 2 rfl rfl ?_
  refine v_cVX F hSF hSH cs_RL_49 dL_line_5 0 (ci := 7) rfl rfl [0, 1, 2, 3, 4, 5, 6, 7, 8, 9, 10, 11, 12, 13, 14, 15, 16, 17] [18] (wc := wC ad G (T, n, mo, ver) (S, h) P Tr Rg (co, len) Rd) (wr := [(ao, .inl (G.2.2.2, 1, .inr (.inl O)))]) rfl rfl rfl rfl rfl (by decide) (x_X7_line lau G ad T n mo ver S h P Tr Rg (co, len) Rd line wh I.1 I.2.2.1 I.2.2.2.2.2.2.2.1.1 I.2.2.2.2.2.2.2.1.2.1 I.2.2.2.2.2.2.2.1.2.2 hst) (by decide) rfl rfl (Nat.le_of_ble_eq_true rfl) ⟨(Nat.le_of_ble_eq_true rfl), (Nat.le_of_ble_eq_true rfl)⟩ (fun E u hpx => ?_) (fun r u hw => ?_)
  · obtain ⟨P1, Tr1, Rg1⟩ := u
    obtain ⟨hpx, hci⟩ := hpx
    rcases hpx with ⟨hc, rfl⟩ | ⟨hc, rfl⟩
    · refine ⟨[], ⟨0, 10, 13, 21⟩, [⟨0, 10, 17, 13⟩], sIOB, by rw [htab]; rfl, ?_, rfl, by decide, F.2.2.2.2.1 _ wL_RL_21, va_Nw.use rfl (hSF.1 _ (by simp [BW])), fun q9 => ?_⟩
      · intro z hz; exact absurd hz List.not_mem_nil
      · refine v_pick [1, 2, 3, 4, 5, 6, 7, 8, 9, 10, 11, 12, 13, 14, 15, 16, 17, 18, 0] (w' := wL ad ao G (T, n, mo, ver) (S, h) P1 Tr1 Rg1 (co, len) Rd O) rfl rfl rfl ?_
        refine v_astore (lv' := [(4, .ref q9), (0, .ref (ad 0)), (1, .int line), (2, .int wh), (3, .ref ao)]) F dL_line_13 (by decide) rfl ?_
        refine v_iconst (v := nI 1) F dL_line_15 (by decide) ?_
        exact v_iret F hr hlk hQ dL_line_16 ((T, n, mo, ver), (S, h), P1, Tr1, Rg1, (co, len), Rd, O) rfl (HPO_x hc (by decide) hci)
    · refine ⟨[⟨0, 10, 13, 21⟩], ⟨0, 10, 17, 13⟩, [], sIAE, by rw [htab]; rfl, ?_, rfl, by decide, F.2.2.2.2.1 _ wL_RL_13, va_Nw.use rfl (hSF.1 _ (by simp [BW])), fun q9 => ?_⟩
      · intro z hz
        simp only [List.mem_cons, List.not_mem_nil, or_false] at hz
        subst hz
        exact Or.inr ⟨by decide, sIOB, F.2.2.2.2.1 _ wL_RL_21, hNC (sIAE, sIOB) (by simp [NCP])⟩
      · refine v_pick [1, 2, 3, 4, 5, 6, 7, 8, 9, 10, 11, 12, 13, 14, 15, 16, 17, 18, 0] (w' := wL ad ao G (T, n, mo, ver) (S, h) P1 Tr1 Rg1 (co, len) Rd O) rfl rfl rfl ?_
        refine v_astore (lv' := [(4, .ref q9), (0, .ref (ad 0)), (1, .int line), (2, .int wh), (3, .ref ao)]) F dL_line_17 (by decide) rfl ?_
        refine v_iconst (v := nI 2) F dL_line_19 (by decide) ?_
        exact v_iret F hr hlk hQ dL_line_20 ((T, n, mo, ver), (S, h), P1, Tr1, Rg1, (co, len), Rd, O) rfl (HPO_x hc (by decide) hci)
  · obtain ⟨P1, Tr1, Rg1⟩ := u
    obtain ⟨hc, hv, hci⟩ := hw
    refine v_pick [1, 2, 3, 4, 5, 6, 7, 8, 9, 10, 11, 12, 13, 14, 15, 16, 17, 18, 0] (w' := wL ad ao G (T, n, mo, ver) (S, h) P1 Tr1 Rg1 (co, len) Rd O) rfl rfl rfl ?_
    refine v_i2l F dL_line_8 ?_
    refine v_lastN F dL_line_9 18 rfl 0 rfl (by decide) (by decide) (wL ad ao G (T, n, mo, ver) (S, h) P1 Tr1 Rg1 (co, len) Rd (vp_updL O 0 r.toInt64)) rfl ?_
    refine v_goto F 21 dL_line_10 (by decide) ?_
    refine v_iconst (v := nI 0) F dL_line_21 (by decide) ?_
    exact v_iret F hr hlk hQ dL_line_22 ((T, n, mo, ver), (S, h), P1, Tr1, Rg1, (co, len), Rd, vp_updL O 0 r.toInt64) rfl (HPO_0 hc hv hci)
theorem wCW_lowest : Cond.codeWith yL_lowest cL_lowest 5 (some .int) [(0, 10, 13, 13)] ∈ GW := tk4 (i := 85) (by decide +kernel) (by decide +kernel)
theorem ch_lowest : CSH RL 146 yL_lowest cL_lowest 5 [(0, 10, 13, 13)] 4 := ⟨wCW_lowest, wM_RL_146, wSt_yL_lowest, wI_RL, by decide +kernel, by decide⟩
theorem cs_RL_52 : CSV RL 52 RX7 yX7_lowest cX7_lowest 3 (some .int) 2 := ⟨wC_yX7_lowest, wM_RL_52, wIm_yX7_lowest, wSe_yX7_lowest, wI_RX7, by decide +kernel, by decide⟩
set_option maxHeartbeats 1000000 in
set_option maxRecDepth 100000 in
theorem h_lowest (lau : Launch) (G : GT) (ad : Nat → Nat) (ao : Nat) (T : Nat → Int32) (n mo ver : Nat) (S : Nat → Int32) (h : Nat) (P : PT) (Tr : TT) (Rg : RT) (co : Nat → Int32) (len : Nat) (Rd : DT) (O : Nat → Int64) (x_ t_ : Int32)  (K : Nat) (I : LIV K T n mo ver S h P Tr Rg co len Rd) (hst : lau.stackTraces = false) : HM lau G 17 yL_lowest cL_lowest 5 [(0, 10, 13, 13)] [.ref (ad 0), .int x_, .int t_, .ref ao] (wL ad ao G (T, n, mo, ver) (S, h) P Tr Rg (co, len) Rd O) (fun u : SU => wL ad ao G u.1 u.2.1 u.2.2.1 u.2.2.2.1 u.2.2.2.2.1 u.2.2.2.2.2.1 u.2.2.2.2.2.2.1 u.2.2.2.2.2.2.2) (fun r u => HPO (xLow x_ t_) (oI (lb T x_.toNatClampNeg t_.toNatClampNeg (-1) n)) T n mo ver (S, h) (co, len) Rd r u) := by
  refine hm_of (by decide +kernel) (Nat.le_of_ble_eq_true rfl) ?_
  intro p e s m args below meth c A Q F hr hlk hQ hSF hSH hNC htab
  refine v_st (w' := wL ad ao G (T, n, mo, ver) (S, h) P Tr Rg (co, len) Rd O) (pc' := 0) (st' := []) rfl rfl rfl [0, 1, 2, 3] (lv' := [(0, .ref (ad 0)), (1, .int x_), (2, .int t_), (3, .ref ao)]) rfl ?_
  refine v_aload_n F dL_lowest_0 3 rfl rfl ?_
  refine v_iconst (v := nI 0) F dL_lowest_1 (by decide) ?_
  refine v_aload_n F dL_lowest_2 0 rfl rfl ?_
  refine v_iload_n F dL_lowest_3 1 rfl rfl ?_
  refine v_iload_n F dL_lowest_4 2 rfl rfl ?_
  refine v_cVX F hSF hSH cs_RL_52 dL_lowest_5 0 (ci := 7) rfl rfl [0, 1, 2, 3, 4, 5, 6, 7, 8, 9, 10, 11, 12, 13, 14, 15, 16, 17] [18] (wc := wC ad G (T, n, mo, ver) (S, h) P Tr Rg (co, len) Rd) (wr := [(ao, .inl (G.2.2.2, 1, .inr (.inl O)))]) rfl rfl rfl rfl rfl (by decide) (x_X7_lowest lau G ad T n mo ver S h P Tr Rg (co, len) Rd x_ t_ I.1 I.2.2.1 I.2.2.2.2.2.2.2.1.1 I.2.2.2.2.2.2.2.1.2.1 I.2.2.2.2.2.2.2.1.2.2 hst) (by decide) rfl rfl (Nat.le_of_ble_eq_true rfl) ⟨(Nat.le_of_ble_eq_true rfl), (Nat.le_of_ble_eq_true rfl)⟩ (fun E u hpx => ?_) (fun r u hw => ?_)
  · obtain ⟨P1, Tr1, Rg1⟩ := u
    obtain ⟨hpx, hci⟩ := hpx
    obtain ⟨hc, rfl⟩ := hpx
    refine ⟨[], ⟨0, 10, 13, 13⟩, [], sIAE, by rw [htab]; rfl, ?_, rfl, by decide, F.2.2.2.2.1 _ wL_RL_13, va_Nw.use rfl (hSF.1 _ (by simp [BW])), fun q9 => ?_⟩
    · intro z hz; exact absurd hz List.not_mem_nil
    · refine v_pick [1, 2, 3, 4, 5, 6, 7, 8, 9, 10, 11, 12, 13, 14, 15, 16, 17, 18, 0] (w' := wL ad ao G (T, n, mo, ver) (S, h) P1 Tr1 Rg1 (co, len) Rd O) rfl rfl rfl ?_
      refine v_astore (lv' := [(4, .ref q9), (0, .ref (ad 0)), (1, .int x_), (2, .int t_), (3, .ref ao)]) F dL_lowest_13 (by decide) rfl ?_
      refine v_iconst (v := nI 1) F dL_lowest_15 (by decide) ?_
      exact v_iret F hr hlk hQ dL_lowest_16 ((T, n, mo, ver), (S, h), P1, Tr1, Rg1, (co, len), Rd, O) rfl (HPO_x hc (by decide) hci)
  · obtain ⟨P1, Tr1, Rg1⟩ := u
    obtain ⟨hc, hv, hci⟩ := hw
    refine v_pick [1, 2, 3, 4, 5, 6, 7, 8, 9, 10, 11, 12, 13, 14, 15, 16, 17, 18, 0] (w' := wL ad ao G (T, n, mo, ver) (S, h) P1 Tr1 Rg1 (co, len) Rd O) rfl rfl rfl ?_
    refine v_i2l F dL_lowest_8 ?_
    refine v_lastN F dL_lowest_9 18 rfl 0 rfl (by decide) (by decide) (wL ad ao G (T, n, mo, ver) (S, h) P1 Tr1 Rg1 (co, len) Rd (vp_updL O 0 r.toInt64)) rfl ?_
    refine v_goto F 17 dL_lowest_10 (by decide) ?_
    refine v_iconst (v := nI 0) F dL_lowest_17 (by decide) ?_
    exact v_iret F hr hlk hQ dL_lowest_18 ((T, n, mo, ver), (S, h), P1, Tr1, Rg1, (co, len), Rd, vp_updL O 0 r.toInt64) rfl (HPO_0 hc hv hci)
theorem wCW_value : Cond.codeWith yL_value cL_value 4 (some .int) [(0, 9, 12, 13), (0, 9, 15, 15)] ∈ GW := tk4 (i := 89) (by decide +kernel) (by decide +kernel)
theorem ch_value : CSH RL 149 yL_value cL_value 4 [(0, 9, 12, 13), (0, 9, 15, 15)] 3 := ⟨wCW_value, wM_RL_149, wSt_yL_value, wI_RL, by decide +kernel, by decide⟩
theorem cs_RL_55 : CSV RL 55 RX7 yX7_value cX7_value 3 (some .int) 1 := ⟨wC_yX7_value, wM_RL_55, wIm_yX7_value, wSe_yX7_value, wI_RX7, by decide +kernel, by decide⟩
set_option maxHeartbeats 1000000 in
set_option maxRecDepth 100000 in
theorem h_value (lau : Launch) (G : GT) (ad : Nat → Nat) (ao : Nat) (T : Nat → Int32) (n mo ver : Nat) (S : Nat → Int32) (h : Nat) (P : PT) (Tr : TT) (Rg : RT) (co : Nat → Int32) (len : Nat) (Rd : DT) (O : Nat → Int64) (x_ : Int32)  (K : Nat) (I : LIV K T n mo ver S h P Tr Rg co len Rd) (hst : lau.stackTraces = false) : HM lau G 17 yL_value cL_value 4 [(0, 9, 12, 13), (0, 9, 15, 15)] [.ref (ad 0), .int x_, .ref ao] (wL ad ao G (T, n, mo, ver) (S, h) P Tr Rg (co, len) Rd O) (fun u : SU => wL ad ao G u.1 u.2.1 u.2.2.1 u.2.2.2.1 u.2.2.2.2.1 u.2.2.2.2.2.1 u.2.2.2.2.2.2.1 u.2.2.2.2.2.2.2) (fun r u => HPO (xVal T n mo x_) (oV T x_.toNatClampNeg (lb T x_.toNatClampNeg mo (-1) n)) T n mo ver (S, h) (co, len) Rd r u) := by
  refine hm_of (by decide +kernel) (Nat.le_of_ble_eq_true rfl) ?_
  intro p e s m args below meth c A Q F hr hlk hQ hSF hSH hNC htab
  refine v_st (w' := wL ad ao G (T, n, mo, ver) (S, h) P Tr Rg (co, len) Rd O) (pc' := 0) (st' := []) rfl rfl rfl [0, 1, 2] (lv' := [(0, .ref (ad 0)), (1, .int x_), (2, .ref ao)]) rfl ?_
  refine v_aload_n F dL_value_0 2 rfl rfl ?_
  refine v_iconst (v := nI 0) F dL_value_1 (by decide) ?_
  refine v_aload_n F dL_value_2 0 rfl rfl ?_
  refine v_iload_n F dL_value_3 1 rfl rfl ?_
  refine v_cVX F hSF hSH cs_RL_55 dL_value_4 0 (ci := 7) rfl rfl [0, 1, 2, 3, 4, 5, 6, 7, 8, 9, 10, 11, 12, 13, 14, 15, 16, 17] [18] (wc := wC ad G (T, n, mo, ver) (S, h) P Tr Rg (co, len) Rd) (wr := [(ao, .inl (G.2.2.2, 1, .inr (.inl O)))]) rfl rfl rfl rfl rfl (by decide) (x_X7_value lau G ad T n mo ver S h P Tr Rg (co, len) Rd x_ I.1 I.2.2.1 I.2.2.2.2.2.2.2.1.1 I.2.2.2.2.2.2.2.1.2.1 I.2.2.2.2.2.2.2.1.2.2 hst) (by decide) rfl rfl (Nat.le_of_ble_eq_true rfl) ⟨(Nat.le_of_ble_eq_true rfl), (Nat.le_of_ble_eq_true rfl)⟩ (fun E u hpx => ?_) (fun r u hw => ?_)
  · obtain ⟨P1, Tr1, Rg1⟩ := u
    obtain ⟨hpx, hci⟩ := hpx
    rcases hpx with ⟨hc, rfl⟩ | ⟨hc, rfl⟩
    · refine ⟨[], ⟨0, 9, 12, 13⟩, [⟨0, 9, 15, 15⟩], sIAE, by rw [htab]; rfl, ?_, rfl, by decide, F.2.2.2.2.1 _ wL_RL_13, va_Nw.use rfl (hSF.1 _ (by simp [BW])), fun q9 => ?_⟩
      · intro z hz; exact absurd hz List.not_mem_nil
      · refine v_pick [1, 2, 3, 4, 5, 6, 7, 8, 9, 10, 11, 12, 13, 14, 15, 16, 17, 18, 0] (w' := wL ad ao G (T, n, mo, ver) (S, h) P1 Tr1 Rg1 (co, len) Rd O) rfl rfl rfl ?_
        refine v_astore_n (lv' := [(3, .ref q9), (0, .ref (ad 0)), (1, .int x_), (2, .ref ao)]) F dL_value_12 3 rfl (by decide) rfl ?_
        refine v_iconst (v := nI 1) F dL_value_13 (by decide) ?_
        exact v_iret F hr hlk hQ dL_value_14 ((T, n, mo, ver), (S, h), P1, Tr1, Rg1, (co, len), Rd, O) rfl (HPO_x hc (by decide) hci)
    · refine ⟨[⟨0, 9, 12, 13⟩], ⟨0, 9, 15, 15⟩, [], sISE, by rw [htab]; rfl, ?_, rfl, by decide, F.2.2.2.2.1 _ wL_RL_15, va_Nw.use rfl (hSF.1 _ (by simp [BW])), fun q9 => ?_⟩
      · intro z hz
        simp only [List.mem_cons, List.not_mem_nil, or_false] at hz
        subst hz
        exact Or.inr ⟨by decide, sIAE, F.2.2.2.2.1 _ wL_RL_13, hNC (sISE, sIAE) (by simp [NCP])⟩
      · refine v_pick [1, 2, 3, 4, 5, 6, 7, 8, 9, 10, 11, 12, 13, 14, 15, 16, 17, 18, 0] (w' := wL ad ao G (T, n, mo, ver) (S, h) P1 Tr1 Rg1 (co, len) Rd O) rfl rfl rfl ?_
        refine v_astore_n (lv' := [(3, .ref q9), (0, .ref (ad 0)), (1, .int x_), (2, .ref ao)]) F dL_value_15 3 rfl (by decide) rfl ?_
        refine v_iconst (v := nI 2) F dL_value_16 (by decide) ?_
        exact v_iret F hr hlk hQ dL_value_17 ((T, n, mo, ver), (S, h), P1, Tr1, Rg1, (co, len), Rd, O) rfl (HPO_x hc (by decide) hci)
  · obtain ⟨P1, Tr1, Rg1⟩ := u
    obtain ⟨hc, hv, hci⟩ := hw
    refine v_pick [1, 2, 3, 4, 5, 6, 7, 8, 9, 10, 11, 12, 13, 14, 15, 16, 17, 18, 0] (w' := wL ad ao G (T, n, mo, ver) (S, h) P1 Tr1 Rg1 (co, len) Rd O) rfl rfl rfl ?_
    refine v_i2l F dL_value_7 ?_
    refine v_lastN F dL_value_8 18 rfl 0 rfl (by decide) (by decide) (wL ad ao G (T, n, mo, ver) (S, h) P1 Tr1 Rg1 (co, len) Rd (vp_updL O 0 r.toInt64)) rfl ?_
    refine v_goto F 18 dL_value_9 (by decide) ?_
    refine v_iconst (v := nI 0) F dL_value_18 (by decide) ?_
    exact v_iret F hr hlk hQ dL_value_19 ((T, n, mo, ver), (S, h), P1, Tr1, Rg1, (co, len), Rd, vp_updL O 0 r.toInt64) rfl (HPO_0 hc hv hci)
theorem wCW_ranked : Cond.codeWith yL_ranked cL_ranked 5 (some .int) [(0, 10, 13, 13)] ∈ GW := tk4 (i := 97) (by decide +kernel) (by decide +kernel)
theorem ch_ranked : CSH RL 152 yL_ranked cL_ranked 5 [(0, 10, 13, 13)] 4 := ⟨wCW_ranked, wM_RL_152, wSt_yL_ranked, wI_RL, by decide +kernel, by decide⟩
theorem cs_RL_58 : CSV RL 58 RX7 yX7_ranked cX7_ranked 4 (some .int) 2 := ⟨wC_yX7_ranked, wM_RL_58, wIm_yX7_ranked, wSe_yX7_ranked, wI_RX7, by decide +kernel, by decide⟩
set_option maxHeartbeats 1000000 in
set_option maxRecDepth 100000 in
theorem h_ranked (lau : Launch) (G : GT) (ad : Nat → Nat) (ao : Nat) (T : Nat → Int32) (n mo ver : Nat) (S : Nat → Int32) (h : Nat) (P : PT) (Tr : TT) (Rg : RT) (co : Nat → Int32) (len : Nat) (Rd : DT) (O : Nat → Int64) (x_ rk_ : Int32)  (K : Nat) (I : LIV K T n mo ver S h P Tr Rg co len Rd) (hst : lau.stackTraces = false) : HM lau G 17 yL_ranked cL_ranked 5 [(0, 10, 13, 13)] [.ref (ad 0), .int x_, .int rk_, .ref ao] (wL ad ao G (T, n, mo, ver) (S, h) P Tr Rg (co, len) Rd O) (fun u : SU => wL ad ao G u.1 u.2.1 u.2.2.1 u.2.2.2.1 u.2.2.2.2.1 u.2.2.2.2.2.1 u.2.2.2.2.2.2.1 u.2.2.2.2.2.2.2) (fun r u => HPO (xRkd x_ rk_) (rkV T n mo x_.toNatClampNeg rk_.toNatClampNeg) T n mo ver (S, h) (co, len) Rd r u) := by
  refine hm_of (by decide +kernel) (Nat.le_of_ble_eq_true rfl) ?_
  intro p e s m args below meth c A Q F hr hlk hQ hSF hSH hNC htab
  refine v_st (w' := wL ad ao G (T, n, mo, ver) (S, h) P Tr Rg (co, len) Rd O) (pc' := 0) (st' := []) rfl rfl rfl [0, 1, 2, 3] (lv' := [(0, .ref (ad 0)), (1, .int x_), (2, .int rk_), (3, .ref ao)]) rfl ?_
  refine v_aload_n F dL_ranked_0 3 rfl rfl ?_
  refine v_iconst (v := nI 0) F dL_ranked_1 (by decide) ?_
  refine v_aload_n F dL_ranked_2 0 rfl rfl ?_
  refine v_iload_n F dL_ranked_3 1 rfl rfl ?_
  refine v_iload_n F dL_ranked_4 2 rfl rfl ?_
  refine v_cVX F hSF hSH cs_RL_58 dL_ranked_5 0 (ci := 7) rfl rfl [0, 1, 2, 3, 4, 5, 6, 7, 8, 9, 10, 11, 12, 13, 14, 15, 16, 17] [18] (wc := wC ad G (T, n, mo, ver) (S, h) P Tr Rg (co, len) Rd) (wr := [(ao, .inl (G.2.2.2, 1, .inr (.inl O)))]) rfl rfl rfl rfl rfl (by decide) (x_X7_ranked lau G ad T n mo ver S h P Tr Rg (co, len) Rd x_ rk_ I.1 I.2.2.1 I.2.2.2.2.2.2.2.1.1 I.2.2.2.2.2.2.2.1.2.1 I.2.2.2.2.2.2.2.1.2.2 hst) (by decide) rfl rfl (Nat.le_of_ble_eq_true rfl) ⟨(Nat.le_of_ble_eq_true rfl), (Nat.le_of_ble_eq_true rfl)⟩ (fun E u hpx => ?_) (fun r u hw => ?_)
  · obtain ⟨P1, Tr1, Rg1⟩ := u
    obtain ⟨hpx, hci⟩ := hpx
    obtain ⟨hc, rfl⟩ := hpx
    refine ⟨[], ⟨0, 10, 13, 13⟩, [], sIAE, by rw [htab]; rfl, ?_, rfl, by decide, F.2.2.2.2.1 _ wL_RL_13, va_Nw.use rfl (hSF.1 _ (by simp [BW])), fun q9 => ?_⟩
    · intro z hz; exact absurd hz List.not_mem_nil
    · refine v_pick [1, 2, 3, 4, 5, 6, 7, 8, 9, 10, 11, 12, 13, 14, 15, 16, 17, 18, 0] (w' := wL ad ao G (T, n, mo, ver) (S, h) P1 Tr1 Rg1 (co, len) Rd O) rfl rfl rfl ?_
      refine v_astore (lv' := [(4, .ref q9), (0, .ref (ad 0)), (1, .int x_), (2, .int rk_), (3, .ref ao)]) F dL_ranked_13 (by decide) rfl ?_
      refine v_iconst (v := nI 1) F dL_ranked_15 (by decide) ?_
      exact v_iret F hr hlk hQ dL_ranked_16 ((T, n, mo, ver), (S, h), P1, Tr1, Rg1, (co, len), Rd, O) rfl (HPO_x hc (by decide) hci)
  · obtain ⟨P1, Tr1, Rg1⟩ := u
    obtain ⟨hc, hv, hci⟩ := hw
    refine v_pick [1, 2, 3, 4, 5, 6, 7, 8, 9, 10, 11, 12, 13, 14, 15, 16, 17, 18, 0] (w' := wL ad ao G (T, n, mo, ver) (S, h) P1 Tr1 Rg1 (co, len) Rd O) rfl rfl rfl ?_
    refine v_i2l F dL_ranked_8 ?_
    refine v_lastN F dL_ranked_9 18 rfl 0 rfl (by decide) (by decide) (wL ad ao G (T, n, mo, ver) (S, h) P1 Tr1 Rg1 (co, len) Rd (vp_updL O 0 r.toInt64)) rfl ?_
    refine v_goto F 17 dL_ranked_10 (by decide) ?_
    refine v_iconst (v := nI 0) F dL_ranked_17 (by decide) ?_
    exact v_iret F hr hlk hQ dL_ranked_18 ((T, n, mo, ver), (S, h), P1, Tr1, Rg1, (co, len), Rd, vp_updL O 0 r.toInt64) rfl (HPO_0 hc hv hci)
theorem wCW_node : Cond.codeWith yL_node cL_node 5 (some .int) [(0, 10, 13, 21), (0, 10, 17, 13)] ∈ GW := tk4 (i := 101) (by decide +kernel) (by decide +kernel)
theorem ch_node : CSH RL 155 yL_node cL_node 5 [(0, 10, 13, 21), (0, 10, 17, 13)] 4 := ⟨wCW_node, wM_RL_155, wSt_yL_node, wI_RL, by decide +kernel, by decide⟩
theorem cs_RL_61 : CSV RL 61 RX7 yX7_node cX7_node 3 (some .int) 2 := ⟨wC_yX7_node, wM_RL_61, wIm_yX7_node, wSe_yX7_node, wI_RX7, by decide +kernel, by decide⟩
set_option maxHeartbeats 1000000 in
set_option maxRecDepth 100000 in
theorem h_node (lau : Launch) (G : GT) (ad : Nat → Nat) (ao : Nat) (T : Nat → Int32) (n mo ver : Nat) (S : Nat → Int32) (h : Nat) (P : PT) (Tr : TT) (Rg : RT) (co : Nat → Int32) (len : Nat) (Rd : DT) (O : Nat → Int64) (k_ wh : Int32)  (K : Nat) (I : LIV K T n mo ver S h P Tr Rg co len Rd) (hst : lau.stackTraces = false) : HM lau G 17 yL_node cL_node 5 [(0, 10, 13, 21), (0, 10, 17, 13)] [.ref (ad 0), .int k_, .int wh, .ref ao] (wL ad ao G (T, n, mo, ver) (S, h) P Tr Rg (co, len) Rd O) (fun u : SU => wL ad ao G u.1 u.2.1 u.2.2.1 u.2.2.2.1 u.2.2.2.2.1 u.2.2.2.2.2.1 u.2.2.2.2.2.2.1 u.2.2.2.2.2.2.2) (fun r u => HPO (xNode k_ wh) (ndV T n mo k_.toNatClampNeg wh.toNatClampNeg) T n mo ver (S, h) (co, len) Rd r u) := by
  refine hm_of (by decide +kernel) (Nat.le_of_ble_eq_true rfl) ?_
  intro p e s m args below meth c A Q F hr hlk hQ hSF hSH hNC htab
  refine v_st (w' := wL ad ao G (T, n, mo, ver) (S, h) P Tr Rg (co, len) Rd O) (pc' := 0) (st' := []) rfl rfl rfl [0, 1, 2, 3] (lv' := [(0, .ref (ad 0)), (1, .int k_), (2, .int wh), (3, .ref ao)]) rfl ?_
  refine v_aload_n F dL_node_0 3 rfl rfl ?_
  refine v_iconst (v := nI 0) F dL_node_1 (by decide) ?_
  refine v_aload_n F dL_node_2 0 rfl rfl ?_
  refine v_iload_n F dL_node_3 1 rfl rfl ?_
  refine v_iload_n F dL_node_4 2 rfl rfl ?_
  refine v_cVX F hSF hSH cs_RL_61 dL_node_5 0 (ci := 7) rfl rfl [0, 1, 2, 3, 4, 5, 6, 7, 8, 9, 10, 11, 12, 13, 14, 15, 16, 17] [18] (wc := wC ad G (T, n, mo, ver) (S, h) P Tr Rg (co, len) Rd) (wr := [(ao, .inl (G.2.2.2, 1, .inr (.inl O)))]) rfl rfl rfl rfl rfl (by decide) (x_X7_node lau G ad T n mo ver S h P Tr Rg (co, len) Rd k_ wh I.1 I.2.2.1 I.2.2.2.2.2.2.2.1.1 I.2.2.2.2.2.2.2.1.2.1 I.2.2.2.2.2.2.2.1.2.2 hst) (by decide) rfl rfl (Nat.le_of_ble_eq_true rfl) ⟨(Nat.le_of_ble_eq_true rfl), (Nat.le_of_ble_eq_true rfl)⟩ (fun E u hpx => ?_) (fun r u hw => ?_)
  · obtain ⟨P1, Tr1, Rg1⟩ := u
    obtain ⟨hpx, hci⟩ := hpx
    rcases hpx with ⟨hc, rfl⟩ | ⟨hc, rfl⟩
    · refine ⟨[], ⟨0, 10, 13, 21⟩, [⟨0, 10, 17, 13⟩], sIOB, by rw [htab]; rfl, ?_, rfl, by decide, F.2.2.2.2.1 _ wL_RL_21, va_Nw.use rfl (hSF.1 _ (by simp [BW])), fun q9 => ?_⟩
      · intro z hz; exact absurd hz List.not_mem_nil
      · refine v_pick [1, 2, 3, 4, 5, 6, 7, 8, 9, 10, 11, 12, 13, 14, 15, 16, 17, 18, 0] (w' := wL ad ao G (T, n, mo, ver) (S, h) P1 Tr1 Rg1 (co, len) Rd O) rfl rfl rfl ?_
        refine v_astore (lv' := [(4, .ref q9), (0, .ref (ad 0)), (1, .int k_), (2, .int wh), (3, .ref ao)]) F dL_node_13 (by decide) rfl ?_
        refine v_iconst (v := nI 1) F dL_node_15 (by decide) ?_
        exact v_iret F hr hlk hQ dL_node_16 ((T, n, mo, ver), (S, h), P1, Tr1, Rg1, (co, len), Rd, O) rfl (HPO_x hc (by decide) hci)
    · refine ⟨[⟨0, 10, 13, 21⟩], ⟨0, 10, 17, 13⟩, [], sIAE, by rw [htab]; rfl, ?_, rfl, by decide, F.2.2.2.2.1 _ wL_RL_13, va_Nw.use rfl (hSF.1 _ (by simp [BW])), fun q9 => ?_⟩
      · intro z hz
        simp only [List.mem_cons, List.not_mem_nil, or_false] at hz
        subst hz
        exact Or.inr ⟨by decide, sIOB, F.2.2.2.2.1 _ wL_RL_21, hNC (sIAE, sIOB) (by simp [NCP])⟩
      · refine v_pick [1, 2, 3, 4, 5, 6, 7, 8, 9, 10, 11, 12, 13, 14, 15, 16, 17, 18, 0] (w' := wL ad ao G (T, n, mo, ver) (S, h) P1 Tr1 Rg1 (co, len) Rd O) rfl rfl rfl ?_
        refine v_astore (lv' := [(4, .ref q9), (0, .ref (ad 0)), (1, .int k_), (2, .int wh), (3, .ref ao)]) F dL_node_17 (by decide) rfl ?_
        refine v_iconst (v := nI 2) F dL_node_19 (by decide) ?_
        exact v_iret F hr hlk hQ dL_node_20 ((T, n, mo, ver), (S, h), P1, Tr1, Rg1, (co, len), Rd, O) rfl (HPO_x hc (by decide) hci)
  · obtain ⟨P1, Tr1, Rg1⟩ := u
    obtain ⟨hc, hv, hci⟩ := hw
    refine v_pick [1, 2, 3, 4, 5, 6, 7, 8, 9, 10, 11, 12, 13, 14, 15, 16, 17, 18, 0] (w' := wL ad ao G (T, n, mo, ver) (S, h) P1 Tr1 Rg1 (co, len) Rd O) rfl rfl rfl ?_
    refine v_i2l F dL_node_8 ?_
    refine v_lastN F dL_node_9 18 rfl 0 rfl (by decide) (by decide) (wL ad ao G (T, n, mo, ver) (S, h) P1 Tr1 Rg1 (co, len) Rd (vp_updL O 0 r.toInt64)) rfl ?_
    refine v_goto F 21 dL_node_10 (by decide) ?_
    refine v_iconst (v := nI 0) F dL_node_21 (by decide) ?_
    exact v_iret F hr hlk hQ dL_node_22 ((T, n, mo, ver), (S, h), P1, Tr1, Rg1, (co, len), Rd, vp_updL O 0 r.toInt64) rfl (HPO_0 hc hv hci)
theorem wCW_row : Cond.codeWith yL_row cL_row 5 (some .int) [(0, 10, 13, 13)] ∈ GW := tk4 (i := 105) (by decide +kernel) (by decide +kernel)
theorem ch_row : CSH RL 158 yL_row cL_row 5 [(0, 10, 13, 13)] 4 := ⟨wCW_row, wM_RL_158, wSt_yL_row, wI_RL, by decide +kernel, by decide⟩
theorem cs_RL_64 : CSV RL 64 RX7 yX7_row cX7_row 4 (some .int) 2 := ⟨wC_yX7_row, wM_RL_64, wIm_yX7_row, wSe_yX7_row, wI_RX7, by decide +kernel, by decide⟩
set_option maxHeartbeats 1000000 in
set_option maxRecDepth 100000 in
theorem h_row (lau : Launch) (G : GT) (ad : Nat → Nat) (ao : Nat) (T : Nat → Int32) (n mo ver : Nat) (S : Nat → Int32) (h : Nat) (P : PT) (Tr : TT) (Rg : RT) (co : Nat → Int32) (len : Nat) (Rd : DT) (O : Nat → Int64) (ro_ wh : Int32)  (K : Nat) (I : LIV K T n mo ver S h P Tr Rg co len Rd) (hst : lau.stackTraces = false) : HM lau G 17 yL_row cL_row 5 [(0, 10, 13, 13)] [.ref (ad 0), .int ro_, .int wh, .ref ao] (wL ad ao G (T, n, mo, ver) (S, h) P Tr Rg (co, len) Rd O) (fun u : SU => wL ad ao G u.1 u.2.1 u.2.2.1 u.2.2.2.1 u.2.2.2.2.1 u.2.2.2.2.2.1 u.2.2.2.2.2.2.1 u.2.2.2.2.2.2.2) (fun r u => HPO (xRow ro_ wh) (rowV T n mo ro_.toNatClampNeg wh.toNatClampNeg) T n mo ver (S, h) (co, len) Rd r u) := by
  refine hm_of (by decide +kernel) (Nat.le_of_ble_eq_true rfl) ?_
  intro p e s m args below meth c A Q F hr hlk hQ hSF hSH hNC htab
  refine v_st (w' := wL ad ao G (T, n, mo, ver) (S, h) P Tr Rg (co, len) Rd O) (pc' := 0) (st' := []) rfl rfl rfl [0, 1, 2, 3] (lv' := [(0, .ref (ad 0)), (1, .int ro_), (2, .int wh), (3, .ref ao)]) rfl ?_
  refine v_aload_n F dL_row_0 3 rfl rfl ?_
  refine v_iconst (v := nI 0) F dL_row_1 (by decide) ?_
  refine v_aload_n F dL_row_2 0 rfl rfl ?_
  refine v_iload_n F dL_row_3 1 rfl rfl ?_
  refine v_iload_n F dL_row_4 2 rfl rfl ?_
  refine v_cVX F hSF hSH cs_RL_64 dL_row_5 0 (ci := 7) rfl rfl [0, 1, 2, 3, 4, 5, 6, 7, 8, 9, 10, 11, 12, 13, 14, 15, 16, 17] [18] (wc := wC ad G (T, n, mo, ver) (S, h) P Tr Rg (co, len) Rd) (wr := [(ao, .inl (G.2.2.2, 1, .inr (.inl O)))]) rfl rfl rfl rfl rfl (by decide) (x_X7_row lau G ad T n mo ver S h P Tr Rg (co, len) Rd ro_ wh I.1 I.2.2.1 I.2.2.2.2.2.2.2.1.1 I.2.2.2.2.2.2.2.1.2.1 I.2.2.2.2.2.2.2.1.2.2 hst) (by decide) rfl rfl (Nat.le_of_ble_eq_true rfl) ⟨(Nat.le_of_ble_eq_true rfl), (Nat.le_of_ble_eq_true rfl)⟩ (fun E u hpx => ?_) (fun r u hw => ?_)
  · obtain ⟨P1, Tr1, Rg1⟩ := u
    obtain ⟨hpx, hci⟩ := hpx
    obtain ⟨hc, rfl⟩ := hpx
    refine ⟨[], ⟨0, 10, 13, 13⟩, [], sIAE, by rw [htab]; rfl, ?_, rfl, by decide, F.2.2.2.2.1 _ wL_RL_13, va_Nw.use rfl (hSF.1 _ (by simp [BW])), fun q9 => ?_⟩
    · intro z hz; exact absurd hz List.not_mem_nil
    · refine v_pick [1, 2, 3, 4, 5, 6, 7, 8, 9, 10, 11, 12, 13, 14, 15, 16, 17, 18, 0] (w' := wL ad ao G (T, n, mo, ver) (S, h) P1 Tr1 Rg1 (co, len) Rd O) rfl rfl rfl ?_
      refine v_astore (lv' := [(4, .ref q9), (0, .ref (ad 0)), (1, .int ro_), (2, .int wh), (3, .ref ao)]) F dL_row_13 (by decide) rfl ?_
      refine v_iconst (v := nI 1) F dL_row_15 (by decide) ?_
      exact v_iret F hr hlk hQ dL_row_16 ((T, n, mo, ver), (S, h), P1, Tr1, Rg1, (co, len), Rd, O) rfl (HPO_x hc (by decide) hci)
  · obtain ⟨P1, Tr1, Rg1⟩ := u
    obtain ⟨hc, hv, hci⟩ := hw
    refine v_pick [1, 2, 3, 4, 5, 6, 7, 8, 9, 10, 11, 12, 13, 14, 15, 16, 17, 18, 0] (w' := wL ad ao G (T, n, mo, ver) (S, h) P1 Tr1 Rg1 (co, len) Rd O) rfl rfl rfl ?_
    refine v_i2l F dL_row_8 ?_
    refine v_lastN F dL_row_9 18 rfl 0 rfl (by decide) (by decide) (wL ad ao G (T, n, mo, ver) (S, h) P1 Tr1 Rg1 (co, len) Rd (vp_updL O 0 r.toInt64)) rfl ?_
    refine v_goto F 17 dL_row_10 (by decide) ?_
    refine v_iconst (v := nI 0) F dL_row_17 (by decide) ?_
    exact v_iret F hr hlk hQ dL_row_18 ((T, n, mo, ver), (S, h), P1, Tr1, Rg1, (co, len), Rd, vp_updL O 0 r.toInt64) rfl (HPO_0 hc hv hci)
theorem wCW_sum : Cond.codeWith yL_sum cL_sum 5 (some .int) [(0, 10, 13, 13)] ∈ GW := tk4 (i := 109) (by decide +kernel) (by decide +kernel)
theorem ch_sum : CSH RL 161 yL_sum cL_sum 5 [(0, 10, 13, 13)] 4 := ⟨wCW_sum, wM_RL_161, wSt_yL_sum, wI_RL, by decide +kernel, by decide⟩
theorem cs_RL_67 : CSV RL 67 RX7 yX7_sum cX7_sum 6 (some .int) 2 := ⟨wC_yX7_sum, wM_RL_67, wIm_yX7_sum, wSe_yX7_sum, wI_RX7, by decide +kernel, by decide⟩
set_option maxHeartbeats 1000000 in
set_option maxRecDepth 100000 in
theorem h_sum (lau : Launch) (G : GT) (ad : Nat → Nat) (ao : Nat) (T : Nat → Int32) (n mo ver : Nat) (S : Nat → Int32) (h : Nat) (P : PT) (Tr : TT) (Rg : RT) (co : Nat → Int32) (len : Nat) (Rd : DT) (O : Nat → Int64) (f q : Int32)  (K : Nat) (I : LIV K T n mo ver S h P Tr Rg co len Rd) (hst : lau.stackTraces = false) : HM lau G 17 yL_sum cL_sum 5 [(0, 10, 13, 13)] [.ref (ad 0), .int f, .int q, .ref ao] (wL ad ao G (T, n, mo, ver) (S, h) P Tr Rg (co, len) Rd O) (fun u : SU => wL ad ao G u.1 u.2.1 u.2.2.1 u.2.2.2.1 u.2.2.2.2.1 u.2.2.2.2.2.1 u.2.2.2.2.2.2.1 u.2.2.2.2.2.2.2) (fun r u => HPO (xSum f q) (sm T n mo f.toNatClampNeg (q.toNatClampNeg + 1 - f.toNatClampNeg)) T n mo ver (S, h) (co, len) Rd r u) := by
  refine hm_of (by decide +kernel) (Nat.le_of_ble_eq_true rfl) ?_
  intro p e s m args below meth c A Q F hr hlk hQ hSF hSH hNC htab
  refine v_st (w' := wL ad ao G (T, n, mo, ver) (S, h) P Tr Rg (co, len) Rd O) (pc' := 0) (st' := []) rfl rfl rfl [0, 1, 2, 3] (lv' := [(0, .ref (ad 0)), (1, .int f), (2, .int q), (3, .ref ao)]) rfl ?_
  refine v_aload_n F dL_sum_0 3 rfl rfl ?_
  refine v_iconst (v := nI 0) F dL_sum_1 (by decide) ?_
  refine v_aload_n F dL_sum_2 0 rfl rfl ?_
  refine v_iload_n F dL_sum_3 1 rfl rfl ?_
  refine v_iload_n F dL_sum_4 2 rfl rfl ?_
  refine v_cVX F hSF hSH cs_RL_67 dL_sum_5 0 (ci := 7) rfl rfl [0, 1, 2, 3, 4, 5, 6, 7, 8, 9, 10, 11, 12, 13, 14, 15, 16, 17] [18] (wc := wC ad G (T, n, mo, ver) (S, h) P Tr Rg (co, len) Rd) (wr := [(ao, .inl (G.2.2.2, 1, .inr (.inl O)))]) rfl rfl rfl rfl rfl (by decide) (x_X7_sum lau G ad T n mo ver S h P Tr Rg (co, len) Rd f q I.1 I.2.2.1 I.2.2.2.2.2.2.2.1.1 I.2.2.2.2.2.2.2.1.2.1 I.2.2.2.2.2.2.2.1.2.2 hst) (by decide) rfl rfl (Nat.le_of_ble_eq_true rfl) ⟨(Nat.le_of_ble_eq_true rfl), (Nat.le_of_ble_eq_true rfl)⟩ (fun E u hpx => ?_) (fun r u hw => ?_)
  · obtain ⟨P1, Tr1, Rg1⟩ := u
    obtain ⟨hpx, hci⟩ := hpx
    obtain ⟨hc, rfl⟩ := hpx
    refine ⟨[], ⟨0, 10, 13, 13⟩, [], sIAE, by rw [htab]; rfl, ?_, rfl, by decide, F.2.2.2.2.1 _ wL_RL_13, va_Nw.use rfl (hSF.1 _ (by simp [BW])), fun q9 => ?_⟩
    · intro z hz; exact absurd hz List.not_mem_nil
    · refine v_pick [1, 2, 3, 4, 5, 6, 7, 8, 9, 10, 11, 12, 13, 14, 15, 16, 17, 18, 0] (w' := wL ad ao G (T, n, mo, ver) (S, h) P1 Tr1 Rg1 (co, len) Rd O) rfl rfl rfl ?_
      refine v_astore (lv' := [(4, .ref q9), (0, .ref (ad 0)), (1, .int f), (2, .int q), (3, .ref ao)]) F dL_sum_13 (by decide) rfl ?_
      refine v_iconst (v := nI 1) F dL_sum_15 (by decide) ?_
      exact v_iret F hr hlk hQ dL_sum_16 ((T, n, mo, ver), (S, h), P1, Tr1, Rg1, (co, len), Rd, O) rfl (HPO_x hc (by decide) hci)
  · obtain ⟨P1, Tr1, Rg1⟩ := u
    obtain ⟨hc, hv, hci⟩ := hw
    refine v_pick [1, 2, 3, 4, 5, 6, 7, 8, 9, 10, 11, 12, 13, 14, 15, 16, 17, 18, 0] (w' := wL ad ao G (T, n, mo, ver) (S, h) P1 Tr1 Rg1 (co, len) Rd O) rfl rfl rfl ?_
    refine v_i2l F dL_sum_8 ?_
    refine v_lastN F dL_sum_9 18 rfl 0 rfl (by decide) (by decide) (wL ad ao G (T, n, mo, ver) (S, h) P1 Tr1 Rg1 (co, len) Rd (vp_updL O 0 r.toInt64)) rfl ?_
    refine v_goto F 17 dL_sum_10 (by decide) ?_
    refine v_iconst (v := nI 0) F dL_sum_17 (by decide) ?_
    exact v_iret F hr hlk hQ dL_sum_18 ((T, n, mo, ver), (S, h), P1, Tr1, Rg1, (co, len), Rd, vp_updL O 0 r.toInt64) rfl (HPO_0 hc hv hci)
theorem wCW_count : Cond.codeWith yL_count cL_count 4 (some .int) [(0, 9, 12, 13)] ∈ GW := tk4 (i := 113) (by decide +kernel) (by decide +kernel)
theorem ch_count : CSH RL 164 yL_count cL_count 4 [(0, 9, 12, 13)] 3 := ⟨wCW_count, wM_RL_164, wSt_yL_count, wI_RL, by decide +kernel, by decide⟩
theorem cs_RL_70 : CSV RL 70 RX7 yX7_count cX7_count 2 (some .int) 1 := ⟨wC_yX7_count, wM_RL_70, wIm_yX7_count, wSe_yX7_count, wI_RX7, by decide +kernel, by decide⟩
set_option maxHeartbeats 1000000 in
set_option maxRecDepth 100000 in
theorem h_count (lau : Launch) (G : GT) (ad : Nat → Nat) (ao : Nat) (T : Nat → Int32) (n mo ver : Nat) (S : Nat → Int32) (h : Nat) (P : PT) (Tr : TT) (Rg : RT) (co : Nat → Int32) (len : Nat) (Rd : DT) (O : Nat → Int64) (wh : Int32)  (K : Nat) (I : LIV K T n mo ver S h P Tr Rg co len Rd) (hst : lau.stackTraces = false) : HM lau G 17 yL_count cL_count 4 [(0, 9, 12, 13)] [.ref (ad 0), .int wh, .ref ao] (wL ad ao G (T, n, mo, ver) (S, h) P Tr Rg (co, len) Rd O) (fun u : SU => wL ad ao G u.1 u.2.1 u.2.2.1 u.2.2.2.1 u.2.2.2.2.1 u.2.2.2.2.2.1 u.2.2.2.2.2.2.1 u.2.2.2.2.2.2.2) (fun r u => HPO (xCnt wh) (cntV T n mo h wh.toNatClampNeg) T n mo ver (S, h) (co, len) Rd r u) := by
  refine hm_of (by decide +kernel) (Nat.le_of_ble_eq_true rfl) ?_
  intro p e s m args below meth c A Q F hr hlk hQ hSF hSH hNC htab
  refine v_st (w' := wL ad ao G (T, n, mo, ver) (S, h) P Tr Rg (co, len) Rd O) (pc' := 0) (st' := []) rfl rfl rfl [0, 1, 2] (lv' := [(0, .ref (ad 0)), (1, .int wh), (2, .ref ao)]) rfl ?_
  refine v_aload_n F dL_count_0 2 rfl rfl ?_
  refine v_iconst (v := nI 0) F dL_count_1 (by decide) ?_
  refine v_aload_n F dL_count_2 0 rfl rfl ?_
  refine v_iload_n F dL_count_3 1 rfl rfl ?_
  refine v_cVX F hSF hSH cs_RL_70 dL_count_4 0 (ci := 7) rfl rfl [0, 1, 2, 3, 4, 5, 6, 7, 8, 9, 10, 11, 12, 13, 14, 15, 16, 17] [18] (wc := wC ad G (T, n, mo, ver) (S, h) P Tr Rg (co, len) Rd) (wr := [(ao, .inl (G.2.2.2, 1, .inr (.inl O)))]) rfl rfl rfl rfl rfl (by decide) (x_X7_count lau G ad T n mo ver S h P Tr Rg (co, len) Rd wh I.1 I.2.2.1 I.2.2.2.2.2.2.2.1.1 I.2.2.2.2.2.2.2.1.2.1 I.2.2.2.2.2.2.2.1.2.2 hst) (by decide) rfl rfl (Nat.le_of_ble_eq_true rfl) ⟨(Nat.le_of_ble_eq_true rfl), (Nat.le_of_ble_eq_true rfl)⟩ (fun E u hpx => ?_) (fun r u hw => ?_)
  · obtain ⟨P1, Tr1, Rg1⟩ := u
    obtain ⟨hpx, hci⟩ := hpx
    obtain ⟨hc, rfl⟩ := hpx
    refine ⟨[], ⟨0, 9, 12, 13⟩, [], sIAE, by rw [htab]; rfl, ?_, rfl, by decide, F.2.2.2.2.1 _ wL_RL_13, va_Nw.use rfl (hSF.1 _ (by simp [BW])), fun q9 => ?_⟩
    · intro z hz; exact absurd hz List.not_mem_nil
    · refine v_pick [1, 2, 3, 4, 5, 6, 7, 8, 9, 10, 11, 12, 13, 14, 15, 16, 17, 18, 0] (w' := wL ad ao G (T, n, mo, ver) (S, h) P1 Tr1 Rg1 (co, len) Rd O) rfl rfl rfl ?_
      refine v_astore_n (lv' := [(3, .ref q9), (0, .ref (ad 0)), (1, .int wh), (2, .ref ao)]) F dL_count_12 3 rfl (by decide) rfl ?_
      refine v_iconst (v := nI 1) F dL_count_13 (by decide) ?_
      exact v_iret F hr hlk hQ dL_count_14 ((T, n, mo, ver), (S, h), P1, Tr1, Rg1, (co, len), Rd, O) rfl (HPO_x hc (by decide) hci)
  · obtain ⟨P1, Tr1, Rg1⟩ := u
    obtain ⟨hc, hv, hci⟩ := hw
    refine v_pick [1, 2, 3, 4, 5, 6, 7, 8, 9, 10, 11, 12, 13, 14, 15, 16, 17, 18, 0] (w' := wL ad ao G (T, n, mo, ver) (S, h) P1 Tr1 Rg1 (co, len) Rd O) rfl rfl rfl ?_
    refine v_i2l F dL_count_7 ?_
    refine v_lastN F dL_count_8 18 rfl 0 rfl (by decide) (by decide) (wL ad ao G (T, n, mo, ver) (S, h) P1 Tr1 Rg1 (co, len) Rd (vp_updL O 0 r.toInt64)) rfl ?_
    refine v_goto F 15 dL_count_9 (by decide) ?_
    refine v_iconst (v := nI 0) F dL_count_15 (by decide) ?_
    exact v_iret F hr hlk hQ dL_count_16 ((T, n, mo, ver), (S, h), P1, Tr1, Rg1, (co, len), Rd, vp_updL O 0 r.toInt64) rfl (HPO_0 hc hv hci)
theorem wCW_ifAdded : Cond.codeWith yL_ifAdded cL_ifAdded 5 (some .int) [(0, 10, 13, 13)] ∈ GW := tk4 (i := 117) (by decide +kernel) (by decide +kernel)
theorem ch_ifAdded : CSH RL 167 yL_ifAdded cL_ifAdded 5 [(0, 10, 13, 13)] 4 := ⟨wCW_ifAdded, wM_RL_167, wSt_yL_ifAdded, wI_RL, by decide +kernel, by decide⟩
theorem cs_RL_73 : CSV RL 73 RX7 yX7_ifAdded cX7_ifAdded 6 (some .int) 2 := ⟨wC_yX7_ifAdded, wM_RL_73, wIm_yX7_ifAdded, wSe_yX7_ifAdded, wI_RX7, by decide +kernel, by decide⟩
set_option maxHeartbeats 1000000 in
set_option maxRecDepth 100000 in
theorem h_ifAdded (lau : Launch) (G : GT) (ad : Nat → Nat) (ao : Nat) (T : Nat → Int32) (n mo ver : Nat) (S : Nat → Int32) (h : Nat) (P : PT) (Tr : TT) (Rg : RT) (co : Nat → Int32) (len : Nat) (Rd : DT) (O : Nat → Int64) (sl off : Int32)  (K : Nat) (I : LIV K T n mo ver S h P Tr Rg co len Rd) (hst : lau.stackTraces = false) : HM lau G 17 yL_ifAdded cL_ifAdded 5 [(0, 10, 13, 13)] [.ref (ad 0), .int sl, .int off, .ref ao] (wL ad ao G (T, n, mo, ver) (S, h) P Tr Rg (co, len) Rd O) (fun u : SU => wL ad ao G u.1 u.2.1 u.2.2.1 u.2.2.2.1 u.2.2.2.2.1 u.2.2.2.2.2.1 u.2.2.2.2.2.2.1 u.2.2.2.2.2.2.2) (fun r u => HPO (xIfa sl off) (nI (ifa T n mo sl off 64)) T n mo ver (S, h) (co, len) Rd r u) := by
  refine hm_of (by decide +kernel) (Nat.le_of_ble_eq_true rfl) ?_
  intro p e s m args below meth c A Q F hr hlk hQ hSF hSH hNC htab
  refine v_st (w' := wL ad ao G (T, n, mo, ver) (S, h) P Tr Rg (co, len) Rd O) (pc' := 0) (st' := []) rfl rfl rfl [0, 1, 2, 3] (lv' := [(0, .ref (ad 0)), (1, .int sl), (2, .int off), (3, .ref ao)]) rfl ?_
  refine v_aload_n F dL_ifAdded_0 3 rfl rfl ?_
  refine v_iconst (v := nI 0) F dL_ifAdded_1 (by decide) ?_
  refine v_aload_n F dL_ifAdded_2 0 rfl rfl ?_
  refine v_iload_n F dL_ifAdded_3 1 rfl rfl ?_
  refine v_iload_n F dL_ifAdded_4 2 rfl rfl ?_
  refine v_cVX F hSF hSH cs_RL_73 dL_ifAdded_5 0 (ci := 7) rfl rfl [0, 1, 2, 3, 4, 5, 6, 7, 8, 9, 10, 11, 12, 13, 14, 15, 16, 17] [18] (wc := wC ad G (T, n, mo, ver) (S, h) P Tr Rg (co, len) Rd) (wr := [(ao, .inl (G.2.2.2, 1, .inr (.inl O)))]) rfl rfl rfl rfl rfl (by decide) (x_X7_ifAdded lau G ad T n mo ver S h P Tr Rg (co, len) Rd sl off I.1 I.2.2.1 I.2.2.2.2.2.2.2.1.1 I.2.2.2.2.2.2.2.1.2.1 I.2.2.2.2.2.2.2.1.2.2 hst) (by decide) rfl rfl (Nat.le_of_ble_eq_true rfl) ⟨(Nat.le_of_ble_eq_true rfl), (Nat.le_of_ble_eq_true rfl)⟩ (fun E u hpx => ?_) (fun r u hw => ?_)
  · obtain ⟨P1, Tr1, Rg1⟩ := u
    obtain ⟨hpx, hci⟩ := hpx
    obtain ⟨hc, rfl⟩ := hpx
    refine ⟨[], ⟨0, 10, 13, 13⟩, [], sIAE, by rw [htab]; rfl, ?_, rfl, by decide, F.2.2.2.2.1 _ wL_RL_13, va_Nw.use rfl (hSF.1 _ (by simp [BW])), fun q9 => ?_⟩
    · intro z hz; exact absurd hz List.not_mem_nil
    · refine v_pick [1, 2, 3, 4, 5, 6, 7, 8, 9, 10, 11, 12, 13, 14, 15, 16, 17, 18, 0] (w' := wL ad ao G (T, n, mo, ver) (S, h) P1 Tr1 Rg1 (co, len) Rd O) rfl rfl rfl ?_
      refine v_astore (lv' := [(4, .ref q9), (0, .ref (ad 0)), (1, .int sl), (2, .int off), (3, .ref ao)]) F dL_ifAdded_13 (by decide) rfl ?_
      refine v_iconst (v := nI 1) F dL_ifAdded_15 (by decide) ?_
      exact v_iret F hr hlk hQ dL_ifAdded_16 ((T, n, mo, ver), (S, h), P1, Tr1, Rg1, (co, len), Rd, O) rfl (HPO_x hc (by decide) hci)
  · obtain ⟨P1, Tr1, Rg1⟩ := u
    obtain ⟨hc, hv, hci⟩ := hw
    refine v_pick [1, 2, 3, 4, 5, 6, 7, 8, 9, 10, 11, 12, 13, 14, 15, 16, 17, 18, 0] (w' := wL ad ao G (T, n, mo, ver) (S, h) P1 Tr1 Rg1 (co, len) Rd O) rfl rfl rfl ?_
    refine v_i2l F dL_ifAdded_8 ?_
    refine v_lastN F dL_ifAdded_9 18 rfl 0 rfl (by decide) (by decide) (wL ad ao G (T, n, mo, ver) (S, h) P1 Tr1 Rg1 (co, len) Rd (vp_updL O 0 r.toInt64)) rfl ?_
    refine v_goto F 17 dL_ifAdded_10 (by decide) ?_
    refine v_iconst (v := nI 0) F dL_ifAdded_17 (by decide) ?_
    exact v_iret F hr hlk hQ dL_ifAdded_18 ((T, n, mo, ver), (S, h), P1, Tr1, Rg1, (co, len), Rd, vp_updL O 0 r.toInt64) rfl (HPO_0 hc hv hci)
theorem wCW_highest : Cond.codeWith yL_highest cL_highest 4 (some .int) [(0, 9, 12, 13)] ∈ GW := tk4 (i := 121) (by decide +kernel) (by decide +kernel)
theorem ch_highest : CSH RL 170 yL_highest cL_highest 4 [(0, 9, 12, 13)] 3 := ⟨wCW_highest, wM_RL_170, wSt_yL_highest, wI_RL, by decide +kernel, by decide⟩
theorem cs_RL_76 : CSV RL 76 RX7 yX7_highest cX7_highest 5 (some .int) 1 := ⟨wC_yX7_highest, wM_RL_76, wIm_yX7_highest, wSe_yX7_highest, wI_RX7, by decide +kernel, by decide⟩
set_option maxHeartbeats 1000000 in
set_option maxRecDepth 100000 in
theorem h_highest (lau : Launch) (G : GT) (ad : Nat → Nat) (ao : Nat) (T : Nat → Int32) (n mo ver : Nat) (S : Nat → Int32) (h : Nat) (P : PT) (Tr : TT) (Rg : RT) (co : Nat → Int32) (len : Nat) (Rd : DT) (O : Nat → Int64) (sl : Int32)  (K : Nat) (I : LIV K T n mo ver S h P Tr Rg co len Rd) (hst : lau.stackTraces = false) : HM lau G 17 yL_highest cL_highest 4 [(0, 9, 12, 13)] [.ref (ad 0), .int sl, .ref ao] (wL ad ao G (T, n, mo, ver) (S, h) P Tr Rg (co, len) Rd O) (fun u : SU => wL ad ao G u.1 u.2.1 u.2.2.1 u.2.2.2.1 u.2.2.2.2.1 u.2.2.2.2.2.1 u.2.2.2.2.2.2.1 u.2.2.2.2.2.2.2) (fun r u => HPO (xHi sl) (hiC T n mo sl) T n mo ver (S, h) (co, len) Rd r u) := by
  refine hm_of (by decide +kernel) (Nat.le_of_ble_eq_true rfl) ?_
  intro p e s m args below meth c A Q F hr hlk hQ hSF hSH hNC htab
  refine v_st (w' := wL ad ao G (T, n, mo, ver) (S, h) P Tr Rg (co, len) Rd O) (pc' := 0) (st' := []) rfl rfl rfl [0, 1, 2] (lv' := [(0, .ref (ad 0)), (1, .int sl), (2, .ref ao)]) rfl ?_
  refine v_aload_n F dL_highest_0 2 rfl rfl ?_
  refine v_iconst (v := nI 0) F dL_highest_1 (by decide) ?_
  refine v_aload_n F dL_highest_2 0 rfl rfl ?_
  refine v_iload_n F dL_highest_3 1 rfl rfl ?_
  refine v_cVX F hSF hSH cs_RL_76 dL_highest_4 0 (ci := 7) rfl rfl [0, 1, 2, 3, 4, 5, 6, 7, 8, 9, 10, 11, 12, 13, 14, 15, 16, 17] [18] (wc := wC ad G (T, n, mo, ver) (S, h) P Tr Rg (co, len) Rd) (wr := [(ao, .inl (G.2.2.2, 1, .inr (.inl O)))]) rfl rfl rfl rfl rfl (by decide) (x_X7_highest lau G ad T n mo ver S h P Tr Rg (co, len) Rd sl I.1 I.2.2.1 I.2.2.2.2.2.2.2.1.1 I.2.2.2.2.2.2.2.1.2.1 I.2.2.2.2.2.2.2.1.2.2 hst) (by decide) rfl rfl (Nat.le_of_ble_eq_true rfl) ⟨(Nat.le_of_ble_eq_true rfl), (Nat.le_of_ble_eq_true rfl)⟩ (fun E u hpx => ?_) (fun r u hw => ?_)
  · obtain ⟨P1, Tr1, Rg1⟩ := u
    obtain ⟨hpx, hci⟩ := hpx
    obtain ⟨hc, rfl⟩ := hpx
    refine ⟨[], ⟨0, 9, 12, 13⟩, [], sIAE, by rw [htab]; rfl, ?_, rfl, by decide, F.2.2.2.2.1 _ wL_RL_13, va_Nw.use rfl (hSF.1 _ (by simp [BW])), fun q9 => ?_⟩
    · intro z hz; exact absurd hz List.not_mem_nil
    · refine v_pick [1, 2, 3, 4, 5, 6, 7, 8, 9, 10, 11, 12, 13, 14, 15, 16, 17, 18, 0] (w' := wL ad ao G (T, n, mo, ver) (S, h) P1 Tr1 Rg1 (co, len) Rd O) rfl rfl rfl ?_
      refine v_astore_n (lv' := [(3, .ref q9), (0, .ref (ad 0)), (1, .int sl), (2, .ref ao)]) F dL_highest_12 3 rfl (by decide) rfl ?_
      refine v_iconst (v := nI 1) F dL_highest_13 (by decide) ?_
      exact v_iret F hr hlk hQ dL_highest_14 ((T, n, mo, ver), (S, h), P1, Tr1, Rg1, (co, len), Rd, O) rfl (HPO_x hc (by decide) hci)
  · obtain ⟨P1, Tr1, Rg1⟩ := u
    obtain ⟨hc, hv, hci⟩ := hw
    refine v_pick [1, 2, 3, 4, 5, 6, 7, 8, 9, 10, 11, 12, 13, 14, 15, 16, 17, 18, 0] (w' := wL ad ao G (T, n, mo, ver) (S, h) P1 Tr1 Rg1 (co, len) Rd O) rfl rfl rfl ?_
    refine v_i2l F dL_highest_7 ?_
    refine v_lastN F dL_highest_8 18 rfl 0 rfl (by decide) (by decide) (wL ad ao G (T, n, mo, ver) (S, h) P1 Tr1 Rg1 (co, len) Rd (vp_updL O 0 r.toInt64)) rfl ?_
    refine v_goto F 15 dL_highest_9 (by decide) ?_
    refine v_iconst (v := nI 0) F dL_highest_15 (by decide) ?_
    exact v_iret F hr hlk hQ dL_highest_16 ((T, n, mo, ver), (S, h), P1, Tr1, Rg1, (co, len), Rd, vp_updL O 0 r.toInt64) rfl (HPO_0 hc hv hci)
theorem wCW_worth : Cond.codeWith yL_worth cL_worth 4 (some .int) [(0, 9, 12, 21)] ∈ GW := tk4 (i := 125) (by decide +kernel) (by decide +kernel)
theorem ch_worth : CSH RL 173 yL_worth cL_worth 4 [(0, 9, 12, 21)] 3 := ⟨wCW_worth, wM_RL_173, wSt_yL_worth, wI_RL, by decide +kernel, by decide⟩
theorem cs_RL_79 : CSV RL 79 RX7 yX7_worth cX7_worth 5 (some .int) 1 := ⟨wC_yX7_worth, wM_RL_79, wIm_yX7_worth, wSe_yX7_worth, wI_RX7, by decide +kernel, by decide⟩
set_option maxHeartbeats 1000000 in
set_option maxRecDepth 100000 in
theorem h_worth (lau : Launch) (G : GT) (ad : Nat → Nat) (ao : Nat) (T : Nat → Int32) (n mo ver : Nat) (S : Nat → Int32) (h : Nat) (P : PT) (Tr : TT) (Rg : RT) (co : Nat → Int32) (len : Nat) (Rd : DT) (O : Nat → Int64) (line : Int32)  (K : Nat) (I : LIV K T n mo ver S h P Tr Rg co len Rd) (hst : lau.stackTraces = false) : HM lau G 17 yL_worth cL_worth 4 [(0, 9, 12, 21)] [.ref (ad 0), .int line, .ref ao] (wL ad ao G (T, n, mo, ver) (S, h) P Tr Rg (co, len) Rd O) (fun u : SU => wL ad ao G u.1 u.2.1 u.2.2.1 u.2.2.2.1 u.2.2.2.2.1 u.2.2.2.2.2.1 u.2.2.2.2.2.2.1 u.2.2.2.2.2.2.2) (fun r u => HPO (xWo n line) (woV T n mo line.toNatClampNeg) T n mo ver (S, h) (co, len) Rd r u) := by
  refine hm_of (by decide +kernel) (Nat.le_of_ble_eq_true rfl) ?_
  intro p e s m args below meth c A Q F hr hlk hQ hSF hSH hNC htab
  refine v_st (w' := wL ad ao G (T, n, mo, ver) (S, h) P Tr Rg (co, len) Rd O) (pc' := 0) (st' := []) rfl rfl rfl [0, 1, 2] (lv' := [(0, .ref (ad 0)), (1, .int line), (2, .ref ao)]) rfl ?_
  refine v_aload_n F dL_worth_0 2 rfl rfl ?_
  refine v_iconst (v := nI 0) F dL_worth_1 (by decide) ?_
  refine v_aload_n F dL_worth_2 0 rfl rfl ?_
  refine v_iload_n F dL_worth_3 1 rfl rfl ?_
  refine v_cVX F hSF hSH cs_RL_79 dL_worth_4 0 (ci := 7) rfl rfl [0, 1, 2, 3, 4, 5, 6, 7, 8, 9, 10, 11, 12, 13, 14, 15, 16, 17] [18] (wc := wC ad G (T, n, mo, ver) (S, h) P Tr Rg (co, len) Rd) (wr := [(ao, .inl (G.2.2.2, 1, .inr (.inl O)))]) rfl rfl rfl rfl rfl (by decide) (x_X7_worth lau G ad T n mo ver S h P Tr Rg (co, len) Rd line I.1 I.2.2.1 I.2.2.2.2.2.2.2.1.1 I.2.2.2.2.2.2.2.1.2.1 I.2.2.2.2.2.2.2.1.2.2 hst) (by decide) rfl rfl (Nat.le_of_ble_eq_true rfl) ⟨(Nat.le_of_ble_eq_true rfl), (Nat.le_of_ble_eq_true rfl)⟩ (fun E u hpx => ?_) (fun r u hw => ?_)
  · obtain ⟨P1, Tr1, Rg1⟩ := u
    obtain ⟨hpx, hci⟩ := hpx
    obtain ⟨hc, rfl⟩ := hpx
    refine ⟨[], ⟨0, 9, 12, 21⟩, [], sIOB, by rw [htab]; rfl, ?_, rfl, by decide, F.2.2.2.2.1 _ wL_RL_21, va_Nw.use rfl (hSF.1 _ (by simp [BW])), fun q9 => ?_⟩
    · intro z hz; exact absurd hz List.not_mem_nil
    · refine v_pick [1, 2, 3, 4, 5, 6, 7, 8, 9, 10, 11, 12, 13, 14, 15, 16, 17, 18, 0] (w' := wL ad ao G (T, n, mo, ver) (S, h) P1 Tr1 Rg1 (co, len) Rd O) rfl rfl rfl ?_
      refine v_astore_n (lv' := [(3, .ref q9), (0, .ref (ad 0)), (1, .int line), (2, .ref ao)]) F dL_worth_12 3 rfl (by decide) rfl ?_
      refine v_iconst (v := nI 1) F dL_worth_13 (by decide) ?_
      exact v_iret F hr hlk hQ dL_worth_14 ((T, n, mo, ver), (S, h), P1, Tr1, Rg1, (co, len), Rd, O) rfl (HPO_x hc (by decide) hci)
  · obtain ⟨P1, Tr1, Rg1⟩ := u
    obtain ⟨hc, hv, hci⟩ := hw
    refine v_pick [1, 2, 3, 4, 5, 6, 7, 8, 9, 10, 11, 12, 13, 14, 15, 16, 17, 18, 0] (w' := wL ad ao G (T, n, mo, ver) (S, h) P1 Tr1 Rg1 (co, len) Rd O) rfl rfl rfl ?_
    refine v_i2l F dL_worth_7 ?_
    refine v_lastN F dL_worth_8 18 rfl 0 rfl (by decide) (by decide) (wL ad ao G (T, n, mo, ver) (S, h) P1 Tr1 Rg1 (co, len) Rd (vp_updL O 0 r.toInt64)) rfl ?_
    refine v_goto F 15 dL_worth_9 (by decide) ?_
    refine v_iconst (v := nI 0) F dL_worth_15 (by decide) ?_
    exact v_iret F hr hlk hQ dL_worth_16 ((T, n, mo, ver), (S, h), P1, Tr1, Rg1, (co, len), Rd, vp_updL O 0 r.toInt64) rfl (HPO_0 hc hv hci)
theorem wCW_changesAt : Cond.codeWith yL_changesAt cL_changesAt 4 (some .int) [(0, 9, 12, 13)] ∈ GW := tk4 (i := 129) (by decide +kernel) (by decide +kernel)
theorem ch_changesAt : CSH RL 176 yL_changesAt cL_changesAt 4 [(0, 9, 12, 13)] 3 := ⟨wCW_changesAt, wM_RL_176, wSt_yL_changesAt, wI_RL, by decide +kernel, by decide⟩
theorem cs_RL_82 : CSV RL 82 RX7 yX7_changesAt cX7_changesAt 4 (some .int) 1 := ⟨wC_yX7_changesAt, wM_RL_82, wIm_yX7_changesAt, wSe_yX7_changesAt, wI_RX7, by decide +kernel, by decide⟩
set_option maxHeartbeats 1000000 in
set_option maxRecDepth 100000 in
theorem h_changesAt (lau : Launch) (G : GT) (ad : Nat → Nat) (ao : Nat) (T : Nat → Int32) (n mo ver : Nat) (S : Nat → Int32) (h : Nat) (P : PT) (Tr : TT) (Rg : RT) (co : Nat → Int32) (len : Nat) (Rd : DT) (O : Nat → Int64) (x_ : Int32)  (K : Nat) (I : LIV K T n mo ver S h P Tr Rg co len Rd) (hst : lau.stackTraces = false) : HM lau G 17 yL_changesAt cL_changesAt 4 [(0, 9, 12, 13)] [.ref (ad 0), .int x_, .ref ao] (wL ad ao G (T, n, mo, ver) (S, h) P Tr Rg (co, len) Rd O) (fun u : SU => wL ad ao G u.1 u.2.1 u.2.2.1 u.2.2.2.1 u.2.2.2.2.1 u.2.2.2.2.2.1 u.2.2.2.2.2.2.1 u.2.2.2.2.2.2.2) (fun r u => HPO (xCh x_) (chA T n mo x_.toNatClampNeg) T n mo ver (S, h) (co, len) Rd r u) := by
  refine hm_of (by decide +kernel) (Nat.le_of_ble_eq_true rfl) ?_
  intro p e s m args below meth c A Q F hr hlk hQ hSF hSH hNC htab
  refine v_st (w' := wL ad ao G (T, n, mo, ver) (S, h) P Tr Rg (co, len) Rd O) (pc' := 0) (st' := []) rfl rfl rfl [0, 1, 2] (lv' := [(0, .ref (ad 0)), (1, .int x_), (2, .ref ao)]) rfl ?_
  refine v_aload_n F dL_changesAt_0 2 rfl rfl ?_
  refine v_iconst (v := nI 0) F dL_changesAt_1 (by decide) ?_
  refine v_aload_n F dL_changesAt_2 0 rfl rfl ?_
  refine v_iload_n F dL_changesAt_3 1 rfl rfl ?_
  refine v_cVX F hSF hSH cs_RL_82 dL_changesAt_4 0 (ci := 7) rfl rfl [0, 1, 2, 3, 4, 5, 6, 7, 8, 9, 10, 11, 12, 13, 14, 15, 16, 17] [18] (wc := wC ad G (T, n, mo, ver) (S, h) P Tr Rg (co, len) Rd) (wr := [(ao, .inl (G.2.2.2, 1, .inr (.inl O)))]) rfl rfl rfl rfl rfl (by decide) (x_X7_changesAt lau G ad T n mo ver S h P Tr Rg (co, len) Rd x_ I.2.1 I.1 I.2.2.1 I.2.2.2.2.2.2.2.1.1 I.2.2.2.2.2.2.2.1.2.1 I.2.2.2.2.2.2.2.1.2.2 hst) (by decide) rfl rfl (Nat.le_of_ble_eq_true rfl) ⟨(Nat.le_of_ble_eq_true rfl), (Nat.le_of_ble_eq_true rfl)⟩ (fun E u hpx => ?_) (fun r u hw => ?_)
  · obtain ⟨P1, Tr1, Rg1⟩ := u
    obtain ⟨hpx, hci⟩ := hpx
    obtain ⟨hc, rfl⟩ := hpx
    refine ⟨[], ⟨0, 9, 12, 13⟩, [], sIAE, by rw [htab]; rfl, ?_, rfl, by decide, F.2.2.2.2.1 _ wL_RL_13, va_Nw.use rfl (hSF.1 _ (by simp [BW])), fun q9 => ?_⟩
    · intro z hz; exact absurd hz List.not_mem_nil
    · refine v_pick [1, 2, 3, 4, 5, 6, 7, 8, 9, 10, 11, 12, 13, 14, 15, 16, 17, 18, 0] (w' := wL ad ao G (T, n, mo, ver) (S, h) P1 Tr1 Rg1 (co, len) Rd O) rfl rfl rfl ?_
      refine v_astore_n (lv' := [(3, .ref q9), (0, .ref (ad 0)), (1, .int x_), (2, .ref ao)]) F dL_changesAt_12 3 rfl (by decide) rfl ?_
      refine v_iconst (v := nI 1) F dL_changesAt_13 (by decide) ?_
      exact v_iret F hr hlk hQ dL_changesAt_14 ((T, n, mo, ver), (S, h), P1, Tr1, Rg1, (co, len), Rd, O) rfl (HPO_x hc (by decide) hci)
  · obtain ⟨P1, Tr1, Rg1⟩ := u
    obtain ⟨hc, hv, hci⟩ := hw
    refine v_pick [1, 2, 3, 4, 5, 6, 7, 8, 9, 10, 11, 12, 13, 14, 15, 16, 17, 18, 0] (w' := wL ad ao G (T, n, mo, ver) (S, h) P1 Tr1 Rg1 (co, len) Rd O) rfl rfl rfl ?_
    refine v_i2l F dL_changesAt_7 ?_
    refine v_lastN F dL_changesAt_8 18 rfl 0 rfl (by decide) (by decide) (wL ad ao G (T, n, mo, ver) (S, h) P1 Tr1 Rg1 (co, len) Rd (vp_updL O 0 r.toInt64)) rfl ?_
    refine v_goto F 15 dL_changesAt_9 (by decide) ?_
    refine v_iconst (v := nI 0) F dL_changesAt_15 (by decide) ?_
    exact v_iret F hr hlk hQ dL_changesAt_16 ((T, n, mo, ver), (S, h), P1, Tr1, Rg1, (co, len), Rd, vp_updL O 0 r.toInt64) rfl (HPO_0 hc hv hci)
theorem wCW_meet : Cond.codeWith yL_meet cL_meet 5 (some .int) [(0, 10, 13, 21), (0, 10, 17, 13)] ∈ GW := tk4 (i := 133) (by decide +kernel) (by decide +kernel)
theorem ch_meet : CSH RL 179 yL_meet cL_meet 5 [(0, 10, 13, 21), (0, 10, 17, 13)] 4 := ⟨wCW_meet, wM_RL_179, wSt_yL_meet, wI_RL, by decide +kernel, by decide⟩
theorem cs_RL_85 : CSV RL 85 RX7 yX7_meet cX7_meet 4 (some .int) 2 := ⟨wC_yX7_meet, wM_RL_85, wIm_yX7_meet, wSe_yX7_meet, wI_RX7, by decide +kernel, by decide⟩
set_option maxHeartbeats 1000000 in
set_option maxRecDepth 100000 in
theorem h_meet (lau : Launch) (G : GT) (ad : Nat → Nat) (ao : Nat) (T : Nat → Int32) (n mo ver : Nat) (S : Nat → Int32) (h : Nat) (P : PT) (Tr : TT) (Rg : RT) (co : Nat → Int32) (len : Nat) (Rd : DT) (O : Nat → Int64) (a_ b_ : Int32)  (K : Nat) (I : LIV K T n mo ver S h P Tr Rg co len Rd) (hst : lau.stackTraces = false) : HM lau G 17 yL_meet cL_meet 5 [(0, 10, 13, 21), (0, 10, 17, 13)] [.ref (ad 0), .int a_, .int b_, .ref ao] (wL ad ao G (T, n, mo, ver) (S, h) P Tr Rg (co, len) Rd O) (fun u : SU => wL ad ao G u.1 u.2.1 u.2.2.1 u.2.2.2.1 u.2.2.2.2.1 u.2.2.2.2.2.1 u.2.2.2.2.2.2.1 u.2.2.2.2.2.2.2) (fun r u => HPO (xMe n a_ b_) (meV T a_.toNatClampNeg b_.toNatClampNeg) T n mo ver (S, h) (co, len) Rd r u) := by
  refine hm_of (by decide +kernel) (Nat.le_of_ble_eq_true rfl) ?_
  intro p e s m args below meth c A Q F hr hlk hQ hSF hSH hNC htab
  refine v_st (w' := wL ad ao G (T, n, mo, ver) (S, h) P Tr Rg (co, len) Rd O) (pc' := 0) (st' := []) rfl rfl rfl [0, 1, 2, 3] (lv' := [(0, .ref (ad 0)), (1, .int a_), (2, .int b_), (3, .ref ao)]) rfl ?_
  refine v_aload_n F dL_meet_0 3 rfl rfl ?_
  refine v_iconst (v := nI 0) F dL_meet_1 (by decide) ?_
  refine v_aload_n F dL_meet_2 0 rfl rfl ?_
  refine v_iload_n F dL_meet_3 1 rfl rfl ?_
  refine v_iload_n F dL_meet_4 2 rfl rfl ?_
  refine v_cVX F hSF hSH cs_RL_85 dL_meet_5 0 (ci := 7) rfl rfl [0, 1, 2, 3, 4, 5, 6, 7, 8, 9, 10, 11, 12, 13, 14, 15, 16, 17] [18] (wc := wC ad G (T, n, mo, ver) (S, h) P Tr Rg (co, len) Rd) (wr := [(ao, .inl (G.2.2.2, 1, .inr (.inl O)))]) rfl rfl rfl rfl rfl (by decide) (x_X7_meet lau G ad T n mo ver S h P Tr Rg (co, len) Rd a_ b_ I.1 I.2.2.1 I.2.2.2.2.2.2.2.1.1 I.2.2.2.2.2.2.2.1.2.1 I.2.2.2.2.2.2.2.1.2.2 hst) (by decide) rfl rfl (Nat.le_of_ble_eq_true rfl) ⟨(Nat.le_of_ble_eq_true rfl), (Nat.le_of_ble_eq_true rfl)⟩ (fun E u hpx => ?_) (fun r u hw => ?_)
  · obtain ⟨P1, Tr1, Rg1⟩ := u
    obtain ⟨hpx, hci⟩ := hpx
    rcases hpx with ⟨hc, rfl⟩ | ⟨hc, rfl⟩
    · refine ⟨[], ⟨0, 10, 13, 21⟩, [⟨0, 10, 17, 13⟩], sIOB, by rw [htab]; rfl, ?_, rfl, by decide, F.2.2.2.2.1 _ wL_RL_21, va_Nw.use rfl (hSF.1 _ (by simp [BW])), fun q9 => ?_⟩
      · intro z hz; exact absurd hz List.not_mem_nil
      · refine v_pick [1, 2, 3, 4, 5, 6, 7, 8, 9, 10, 11, 12, 13, 14, 15, 16, 17, 18, 0] (w' := wL ad ao G (T, n, mo, ver) (S, h) P1 Tr1 Rg1 (co, len) Rd O) rfl rfl rfl ?_
        refine v_astore (lv' := [(4, .ref q9), (0, .ref (ad 0)), (1, .int a_), (2, .int b_), (3, .ref ao)]) F dL_meet_13 (by decide) rfl ?_
        refine v_iconst (v := nI 1) F dL_meet_15 (by decide) ?_
        exact v_iret F hr hlk hQ dL_meet_16 ((T, n, mo, ver), (S, h), P1, Tr1, Rg1, (co, len), Rd, O) rfl (HPO_x hc (by decide) hci)
    · refine ⟨[⟨0, 10, 13, 21⟩], ⟨0, 10, 17, 13⟩, [], sIAE, by rw [htab]; rfl, ?_, rfl, by decide, F.2.2.2.2.1 _ wL_RL_13, va_Nw.use rfl (hSF.1 _ (by simp [BW])), fun q9 => ?_⟩
      · intro z hz
        simp only [List.mem_cons, List.not_mem_nil, or_false] at hz
        subst hz
        exact Or.inr ⟨by decide, sIOB, F.2.2.2.2.1 _ wL_RL_21, hNC (sIAE, sIOB) (by simp [NCP])⟩
      · refine v_pick [1, 2, 3, 4, 5, 6, 7, 8, 9, 10, 11, 12, 13, 14, 15, 16, 17, 18, 0] (w' := wL ad ao G (T, n, mo, ver) (S, h) P1 Tr1 Rg1 (co, len) Rd O) rfl rfl rfl ?_
        refine v_astore (lv' := [(4, .ref q9), (0, .ref (ad 0)), (1, .int a_), (2, .int b_), (3, .ref ao)]) F dL_meet_17 (by decide) rfl ?_
        refine v_iconst (v := nI 2) F dL_meet_19 (by decide) ?_
        exact v_iret F hr hlk hQ dL_meet_20 ((T, n, mo, ver), (S, h), P1, Tr1, Rg1, (co, len), Rd, O) rfl (HPO_x hc (by decide) hci)
  · obtain ⟨P1, Tr1, Rg1⟩ := u
    obtain ⟨hc, hv, hci⟩ := hw
    refine v_pick [1, 2, 3, 4, 5, 6, 7, 8, 9, 10, 11, 12, 13, 14, 15, 16, 17, 18, 0] (w' := wL ad ao G (T, n, mo, ver) (S, h) P1 Tr1 Rg1 (co, len) Rd O) rfl rfl rfl ?_
    refine v_i2l F dL_meet_8 ?_
    refine v_lastN F dL_meet_9 18 rfl 0 rfl (by decide) (by decide) (wL ad ao G (T, n, mo, ver) (S, h) P1 Tr1 Rg1 (co, len) Rd (vp_updL O 0 r.toInt64)) rfl ?_
    refine v_goto F 21 dL_meet_10 (by decide) ?_
    refine v_iconst (v := nI 0) F dL_meet_21 (by decide) ?_
    exact v_iret F hr hlk hQ dL_meet_22 ((T, n, mo, ver), (S, h), P1, Tr1, Rg1, (co, len), Rd, vp_updL O 0 r.toInt64) rfl (HPO_0 hc hv hci)
