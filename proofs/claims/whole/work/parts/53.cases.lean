/-! the law's cases -/
def wW (ad : Nat → Nat) (ao : Nat) (am : Nat → Nat) (G : GT) (L : LT) (Hs : HT) (P : PT) (Tr : TT) (Rg : RT) (Tx : XT) (Rd : DT) (O : Nat → Int64) (N : Nat → Int32) (Hm : HT) (Xm : XT) (Tw : Nat) (Qs : QT) (Ks : KS) (Lo Wi : Nat → Int32) : va_W := wL ad ao G L Hs P Tr Rg Tx Rd O ++ wM am G N Hm Xm Tw Qs Ks Lo Wi
abbrev lwl (ad : Nat → Nat) (ao : Nat) (am : Nat → Nat) (b i : Nat) : List (Nat × Value) := [(4, .int (nI i)), (3, .ref ao), (2, .ref (am 0)), (1, .ref (ad 0)), (0, .ref b)]
/-- what the next round of the loop asks -/
def NX (lau : Launch) (p : Program) (e : Env) (s : State) (m : MethodId) (args : Array Value) (below : List Frame) (meth : Method) (c : Code) (G : GT) (A : Nat → Prop) (Q : State → Prop) (ad : Nat → Nat) (ao : Nat) (am : Nat → Nat) (b K : Nat) : Prop :=
  ∀ (L1 : LT) (H1 : HT) (P1 : PT) (Tr1 : TT) (Rg1 : RT) (X1 : XT) (D1 : DT) (O1 : Nat → Int64) (N1 : Nat → Int32) (H2 : HT) (X2 : XT) (Tw1 : Nat) (Q1 : QT) (K1 : KS) (Lo1 Wi1 : Nat → Int32), LR (K + 1) L1 H1 P1 Tr1 Rg1 X1 D1 N1 H2 X2 → V p lau e room_1 s m args below meth c 9 G A Q (wW ad ao am G L1 H1 P1 Tr1 Rg1 X1 D1 O1 N1 H2 X2 Tw1 Q1 K1 Lo1 Wi1) (30 + (K + 1)) (10000 + 6 * (K + 1)) 1714 (lwl ad ao am b (4 * K)) []
theorem lg_self (x : Int64) : lg_cmp x x = 0 := by
  unfold lg_cmp
  rw [if_neg (show ¬ x > x by rw [gt_iff_lt, Int64.lt_iff_toInt_lt]; omega), if_pos rfl]
theorem room_k {K : Nat} (h : K < 512) : 30 + K + 1 ≤ room_1.cells ∧ 10000 + 6 * K + 6 ≤ room_1.slots := by
  show 30 + K + 1 ≤ 601024 ∧ 10000 + 6 * K + 6 ≤ 7293034
  omega
theorem cs_RL_97 : CSV RL 97 RX8 yX8_add cX8_add 3 (some .int) 2 := ⟨wC_yX8_add, wM_RL_97, wIm_yX8_add, wSe_yX8_add, wI_RX8, by decide +kernel, by decide⟩
theorem cs_RL_98 : CSV RL 98 RX8 yX8_thrown cX8_thrown 1 (some .int) 0 := ⟨wC_yX8_thrown, wM_RL_98, wIm_yX8_thrown, wSe_yX8_thrown, wI_RX8, by decide +kernel, by decide⟩
set_option maxHeartbeats 1000000 in
set_option maxRecDepth 100000 in
theorem lc_0 (lau : Launch) (G : GT) {p : Program} {e : Env} {s : State} {m : MethodId} {args : Array Value} {below : List Frame} {meth : Method} {c : Code} {A : Nat → Prop} {Q : State → Prop} (F : FX p room_1 s m args c code RL 9 2000 G A) (hSF : SF s) (hSH : SH A s s.heap) (hNC : NC s) (hst : lau.stackTraces = false) {b L : Nat} {xs : Nat → Int32} (hX : va_X b L xs s s.heap) (hbl : b < s.heap.size) (hbA : ¬ A b) (hL : L ≤ 2048) (ad : Nat → Nat) (ao : Nat) (am : Nat → Nat) (T : Nat → Int32) (n mo ver : Nat) (S : Nat → Int32) (h : Nat) (P : PT) (Tr : TT) (Rg : RT) (co : Nat → Int32) (len : Nat) (Rd : DT) (O : Nat → Int64) (Tw i_ : Nat) (ft : Bool) (vl : Nat) (td : Nat → Int32) (tn : Nat) (ke sp Lo Wi : Nat → Int32) {K : Nat} (hK : 4 * K + 4 ≤ L) (I : LIV K T n mo ver S h P Tr Rg co len Rd) (hnx : NX lau p e s m args below meth c G A Q ad ao am b K) : V p lau e room_1 s m args below meth c 9 G A Q (wW ad ao am G (T, n, mo, ver) (S, h) P Tr Rg (co, len) Rd O (snp T n mo) (S, h) (co, len) Tw (i_, ft, vl, td, tn) (ke, sp) Lo Wi) (30 + K) (10000 + 6 * K) 164 (lwl ad ao am b (4 * K)) [] := by
  have hkk : K < 512 := by omega
  obtain ⟨hk1, hk2⟩ := room_k hkk
  refine v_aload_n F dL_law_164 1 rfl rfl ?_
  refine v_aload_n F dL_law_165 0 rfl rfl ?_
  refine v_iload F dL_law_166 rfl ?_
  refine v_iconst (v := nI 1) F dL_law_168 (by decide) ?_
  refine v_iadd F dL_law_169 ?_
  refine v_topi (nI (4 * K + 1)) (nI_add (4 * K) 1) ?_
  refine v_sld F hX hbl hbA (4 * K + 1) rfl (by omega) (by omega) dL_law_170 ?_
  refine v_aload_n F dL_law_171 0 rfl rfl ?_
  refine v_iload F dL_law_172 rfl ?_
  refine v_iconst (v := nI 2) F dL_law_174 (by decide) ?_
  refine v_iadd F dL_law_175 ?_
  refine v_topi (nI (4 * K + 2)) (nI_add (4 * K) 2) ?_
  refine v_sld F hX hbl hbA (4 * K + 2) rfl (by omega) (by omega) dL_law_176 ?_
  refine v_aload_n F dL_law_177 3 rfl rfl ?_
  refine v_cH F hSF hSH hNC ch_add dL_law_178 [0, 1, 2, 3, 4, 5, 6, 7, 8, 9, 10, 11, 12, 13, 14, 15, 16, 17, 18] [19, 20, 21, 22, 23, 24, 25, 26, 27] (wc := wL ad ao G (T, n, mo, ver) (S, h) P Tr Rg (co, len) Rd O) (wr := wM am G (snp T n mo) (S, h) (co, len) Tw (i_, ft, vl, td, tn) (ke, sp) Lo Wi) rfl rfl rfl rfl rfl (by decide) (h_add lau G ad ao T n mo ver S h P Tr Rg co len Rd O (xs (4 * K + 1)) (xs (4 * K + 2)) K I hst) (by decide) rfl rfl (Nat.le_of_ble_eq_true rfl) ⟨by omega, by omega⟩ (fun r u hw => ?_)
  obtain ⟨L1, H1, P1, Tr1, Rg1, X1, D1, O1⟩ := u
  refine v_pick [9, 10, 11, 12, 13, 14, 15, 16, 17, 18, 19, 20, 21, 22, 23, 24, 25, 26, 27, 0, 1, 2, 3, 4, 5, 6, 7, 8] (w' := wL ad ao G L1 H1 P1 Tr1 Rg1 X1 D1 O1 ++ wM am G (snp T n mo) (S, h) (co, len) Tw (i_, ft, vl, td, tn) (ke, sp) Lo Wi) rfl rfl rfl ?_
  obtain ⟨hr1, ⟨eP, eT, eR⟩, h0, h1⟩ := hw
  refine v_topi (nI (xAdd n (xs (4 * K + 1)) (xs (4 * K + 2)))) hr1 ?_
  refine v_istore (lv' := [(5, .int (nI (xAdd n (xs (4 * K + 1)) (xs (4 * K + 2))))), (4, .int (nI (4 * K))), (3, .ref ao), (2, .ref (am 0)), (1, .ref (ad 0)), (0, .ref b)]) F dL_law_181 (by decide) rfl ?_
  refine v_aload_n F dL_law_183 2 rfl rfl ?_
  refine v_aload_n F dL_law_184 0 rfl rfl ?_
  refine v_iload F dL_law_185 rfl ?_
  refine v_iconst (v := nI 1) F dL_law_187 (by decide) ?_
  refine v_iadd F dL_law_188 ?_
  refine v_topi (nI (4 * K + 1)) (nI_add (4 * K) 1) ?_
  refine v_sld F hX hbl hbA (4 * K + 1) rfl (by omega) (by omega) dL_law_189 ?_
  refine v_aload_n F dL_law_190 0 rfl rfl ?_
  refine v_iload F dL_law_191 rfl ?_
  refine v_iconst (v := nI 2) F dL_law_193 (by decide) ?_
  refine v_iadd F dL_law_194 ?_
  refine v_topi (nI (4 * K + 2)) (nI_add (4 * K) 2) ?_
  refine v_sld F hX hbl hbA (4 * K + 2) rfl (by omega) (by omega) dL_law_195 ?_
  refine v_cVIS F cs_RL_97 dL_law_196 19 (ci := 8) rfl rfl [19, 20, 21, 22, 23, 24, 25, 26, 27] [0, 1, 2, 3, 4, 5, 6, 7, 8, 9, 10, 11, 12, 13, 14, 15, 16, 17, 18] (wc := wM am G (snp T n mo) (S, h) (co, len) Tw (i_, ft, vl, td, tn) (ke, sp) Lo Wi) (wr := wL ad ao G L1 H1 P1 Tr1 Rg1 X1 D1 O1) rfl rfl rfl rfl rfl (by decide) (m_X8_add lau G am T n mo S h (co, len) Tw (i_, ft, vl, td, tn) (ke, sp) Lo Wi (xs (4 * K + 1)) (xs (4 * K + 2)) I.1 I.2.2.2.1) (by decide) rfl rfl (Nat.le_of_ble_eq_true rfl) ⟨by omega, by omega⟩ (fun r2 u hm => ?_)
  obtain ⟨N1, H2, X2, Q1, K1, Lo1, Wi1⟩ := u
  refine v_w (w' := wW ad ao am G L1 H1 P1 Tr1 Rg1 X1 D1 O1 N1 H2 X2 (xAdd n (xs (4 * K + 1)) (xs (4 * K + 2))) Q1 K1 Lo1 Wi1) rfl ?_
  refine v_istore (lv' := [(6, .int r2), (5, .int (nI (xAdd n (xs (4 * K + 1)) (xs (4 * K + 2))))), (4, .int (nI (4 * K))), (3, .ref ao), (2, .ref (am 0)), (1, .ref (ad 0)), (0, .ref b)]) F dL_law_199 (by decide) rfl ?_
  refine v_aload_n F dL_law_201 2 rfl rfl ?_
  refine v_cVIS F cs_RL_98 dL_law_202 19 (ci := 8) rfl rfl [19, 20, 21, 22, 23, 24, 25, 26, 27] [0, 1, 2, 3, 4, 5, 6, 7, 8, 9, 10, 11, 12, 13, 14, 15, 16, 17, 18] (wc := wM am G N1 H2 X2 (xAdd n (xs (4 * K + 1)) (xs (4 * K + 2))) Q1 K1 Lo1 Wi1) (wr := wL ad ao G L1 H1 P1 Tr1 Rg1 X1 D1 O1) rfl rfl rfl rfl rfl (by decide) (m_X8_thrown lau G am N1 H2 X2 (xAdd n (xs (4 * K + 1)) (xs (4 * K + 2))) Q1 K1 Lo1 Wi1) (by decide) rfl rfl (Nat.le_of_ble_eq_true rfl) ⟨by omega, by omega⟩ (fun r3 u3 hr3 => ?_)
  refine v_topi (nI (xAdd n (xs (4 * K + 1)) (xs (4 * K + 2)))) hr3 ?_
  refine v_w (w' := wW ad ao am G L1 H1 P1 Tr1 Rg1 X1 D1 O1 N1 H2 X2 (xAdd n (xs (4 * K + 1)) (xs (4 * K + 2))) Q1 K1 Lo1 Wi1) rfl ?_
  refine v_iload F dL_law_205 rfl ?_
  refine v_icmp_eq F 212 dL_law_207 (by decide) (fun _ => ?_) (fun hq => absurd rfl hq)
  refine v_iload F dL_law_212 rfl ?_
  have hcb : xAdd n (xs (4 * K + 1)) (xs (4 * K + 2)) < 2 ^ 31 := by
    unfold xAdd
    repeat' split
    all_goals decide
  have hlr : LR (K + 1) L1 H1 P1 Tr1 Rg1 X1 D1 N1 H2 X2 := by
    have eP : P1 = P := eP
    have eT : Tr1 = Tr := eT
    have eR : Rg1 = Rg := eR
    by_cases hc : xAdd n (xs (4 * K + 1)) (xs (4 * K + 2)) = 0
    · obtain ⟨-, eL, eH, eX, eD⟩ := h0 hc
      obtain ⟨-, eN, eH2, eX2⟩ := hm.1 hc
      have eD : D1 = Rd := eD
      exact ⟨_, _, _, _, _, _, _, _, eL, eH, eX, eN, eH2, eX2, by rw [eP, eT, eR, eD]; exact lr_add I hkk hc⟩
    · obtain ⟨eL, eH, eX, eD⟩ := h1 hc
      obtain ⟨eN, eH2, eX2⟩ := hm.2 hc
      have eD : D1 = Rd := eD
      exact ⟨_, _, _, _, _, _, _, _, eL, eH, eX, eN, eH2, eX2, by rw [eP, eT, eR, eD]; exact I.same hkk⟩
  refine v_if_ne F 229 dL_law_214 (by decide) (fun _ => ?_) (fun hz => ?_)
  · refine v_goto F 1714 dL_law_229 (by decide) ?_
    refine v_st (w' := wW ad ao am G L1 H1 P1 Tr1 Rg1 X1 D1 O1 N1 H2 X2 (xAdd n (xs (4 * K + 1)) (xs (4 * K + 2))) Q1 K1 Lo1 Wi1) (pc' := 1714) (st' := []) rfl rfl rfl [2, 3, 4, 5, 6] (lv' := lwl ad ao am b (4 * K)) rfl ?_
    refine v_widen (k' := 30 + (K + 1)) (n' := 10000 + 6 * (K + 1)) (by omega) (by omega) ?_
    exact hnx _ _ _ _ _ _ _ _ _ _ _ _ _ _ _ _ hlr
  · have hc : xAdd n (xs (4 * K + 1)) (xs (4 * K + 2)) = 0 := (nI_eq hcb (by decide)).mp hz
    refine v_aload_n F dL_law_217 3 rfl rfl ?_
    refine v_iconst (v := nI 0) F dL_law_218 (by decide) ?_
    refine v_laldN F dL_law_219 18 rfl 0 rfl (by decide) (by decide) (O1 0) rfl ?_
    refine v_iload F dL_law_220 rfl ?_
    refine v_i2l F dL_law_222 ?_
    refine v_lcmp F dL_law_223 ?_
    have e1 : O1 0 = r2.toInt64 := (h0 hc).1.trans (congrArg Int32.toInt64 (hm.1 hc).1.symm)
    refine v_if_eq F 229 dL_law_224 (by decide) (fun _ => ?_) (fun hq => absurd (by rw [e1]; exact lg_self _) hq)
    refine v_goto F 1714 dL_law_229 (by decide) ?_
    refine v_st (w' := wW ad ao am G L1 H1 P1 Tr1 Rg1 X1 D1 O1 N1 H2 X2 (xAdd n (xs (4 * K + 1)) (xs (4 * K + 2))) Q1 K1 Lo1 Wi1) (pc' := 1714) (st' := []) rfl rfl rfl [2, 3, 4, 5, 6] (lv' := lwl ad ao am b (4 * K)) rfl ?_
    refine v_widen (k' := 30 + (K + 1)) (n' := 10000 + 6 * (K + 1)) (by omega) (by omega) ?_
    exact hnx _ _ _ _ _ _ _ _ _ _ _ _ _ _ _ _ hlr
theorem cs_RL_104 : CSV RL 104 RX8 yX8_span cX8_span 4 (some .int) 3 := ⟨wC_yX8_span, wM_RL_104, wIm_yX8_span, wSe_yX8_span, wI_RX8, by decide +kernel, by decide⟩
set_option maxHeartbeats 1000000 in
set_option maxRecDepth 100000 in
theorem lc_1 (lau : Launch) (G : GT) {p : Program} {e : Env} {s : State} {m : MethodId} {args : Array Value} {below : List Frame} {meth : Method} {c : Code} {A : Nat → Prop} {Q : State → Prop} (F : FX p room_1 s m args c code RL 9 2000 G A) (hSF : SF s) (hSH : SH A s s.heap) (hNC : NC s) (hst : lau.stackTraces = false) {b L : Nat} {xs : Nat → Int32} (hX : va_X b L xs s s.heap) (hbl : b < s.heap.size) (hbA : ¬ A b) (hL : L ≤ 2048) (ad : Nat → Nat) (ao : Nat) (am : Nat → Nat) (T : Nat → Int32) (n mo ver : Nat) (S : Nat → Int32) (h : Nat) (P : PT) (Tr : TT) (Rg : RT) (co : Nat → Int32) (len : Nat) (Rd : DT) (O : Nat → Int64) (Tw i_ : Nat) (ft : Bool) (vl : Nat) (td : Nat → Int32) (tn : Nat) (ke sp Lo Wi : Nat → Int32) {K : Nat} (hK : 4 * K + 4 ≤ L) (I : LIV K T n mo ver S h P Tr Rg co len Rd) (hnx : NX lau p e s m args below meth c G A Q ad ao am b K) : V p lau e room_1 s m args below meth c 9 G A Q (wW ad ao am G (T, n, mo, ver) (S, h) P Tr Rg (co, len) Rd O (snp T n mo) (S, h) (co, len) Tw (i_, ft, vl, td, tn) (ke, sp) Lo Wi) (30 + K) (10000 + 6 * K) 232 (lwl ad ao am b (4 * K)) [] := by
  have hkk : K < 512 := by omega
  obtain ⟨hk1, hk2⟩ := room_k hkk
  refine v_aload_n F dL_law_232 1 rfl rfl ?_
  refine v_aload_n F dL_law_233 0 rfl rfl ?_
  refine v_iload F dL_law_234 rfl ?_
  refine v_iconst (v := nI 1) F dL_law_236 (by decide) ?_
  refine v_iadd F dL_law_237 ?_
  refine v_topi (nI (4 * K + 1)) (nI_add (4 * K) 1) ?_
  refine v_sld F hX hbl hbA (4 * K + 1) rfl (by omega) (by omega) dL_law_238 ?_
  refine v_aload_n F dL_law_239 0 rfl rfl ?_
  refine v_iload F dL_law_240 rfl ?_
  refine v_iconst (v := nI 2) F dL_law_242 (by decide) ?_
  refine v_iadd F dL_law_243 ?_
  refine v_topi (nI (4 * K + 2)) (nI_add (4 * K) 2) ?_
  refine v_sld F hX hbl hbA (4 * K + 2) rfl (by omega) (by omega) dL_law_244 ?_
  refine v_aload_n F dL_law_245 0 rfl rfl ?_
  refine v_iload F dL_law_246 rfl ?_
  refine v_iconst (v := nI 3) F dL_law_248 (by decide) ?_
  refine v_iadd F dL_law_249 ?_
  refine v_topi (nI (4 * K + 3)) (nI_add (4 * K) 3) ?_
  refine v_sld F hX hbl hbA (4 * K + 3) rfl (by omega) (by omega) dL_law_250 ?_
  refine v_aload_n F dL_law_251 3 rfl rfl ?_
  refine v_cH F hSF hSH hNC ch_span dL_law_252 [0, 1, 2, 3, 4, 5, 6, 7, 8, 9, 10, 11, 12, 13, 14, 15, 16, 17, 18] [19, 20, 21, 22, 23, 24, 25, 26, 27] (wc := wL ad ao G (T, n, mo, ver) (S, h) P Tr Rg (co, len) Rd O) (wr := wM am G (snp T n mo) (S, h) (co, len) Tw (i_, ft, vl, td, tn) (ke, sp) Lo Wi) rfl rfl rfl rfl rfl (by decide) (h_span lau G ad ao T n mo ver S h P Tr Rg co len Rd O (xs (4 * K + 1)) (xs (4 * K + 2)) (xs (4 * K + 3)) K I hst) (by decide) rfl rfl (Nat.le_of_ble_eq_true rfl) ⟨by omega, by omega⟩ (fun r u hw => ?_)
  obtain ⟨L1, H1, P1, Tr1, Rg1, X1, D1, O1⟩ := u
  refine v_pick [9, 10, 11, 12, 13, 14, 15, 16, 17, 18, 19, 20, 21, 22, 23, 24, 25, 26, 27, 0, 1, 2, 3, 4, 5, 6, 7, 8] (w' := wL ad ao G L1 H1 P1 Tr1 Rg1 X1 D1 O1 ++ wM am G (snp T n mo) (S, h) (co, len) Tw (i_, ft, vl, td, tn) (ke, sp) Lo Wi) rfl rfl rfl ?_
  obtain ⟨hr1, ⟨eP, eT, eR⟩, h0, h1⟩ := hw
  refine v_topi (nI (xStr n (xs (4 * K + 1)) (xs (4 * K + 2)) (xs (4 * K + 3)) (nI 64))) hr1 ?_
  refine v_istore (lv' := [(5, .int (nI (xStr n (xs (4 * K + 1)) (xs (4 * K + 2)) (xs (4 * K + 3)) (nI 64)))), (4, .int (nI (4 * K))), (3, .ref ao), (2, .ref (am 0)), (1, .ref (ad 0)), (0, .ref b)]) F dL_law_255 (by decide) rfl ?_
  refine v_aload_n F dL_law_257 2 rfl rfl ?_
  refine v_aload_n F dL_law_258 0 rfl rfl ?_
  refine v_iload F dL_law_259 rfl ?_
  refine v_iconst (v := nI 1) F dL_law_261 (by decide) ?_
  refine v_iadd F dL_law_262 ?_
  refine v_topi (nI (4 * K + 1)) (nI_add (4 * K) 1) ?_
  refine v_sld F hX hbl hbA (4 * K + 1) rfl (by omega) (by omega) dL_law_263 ?_
  refine v_aload_n F dL_law_264 0 rfl rfl ?_
  refine v_iload F dL_law_265 rfl ?_
  refine v_iconst (v := nI 2) F dL_law_267 (by decide) ?_
  refine v_iadd F dL_law_268 ?_
  refine v_topi (nI (4 * K + 2)) (nI_add (4 * K) 2) ?_
  refine v_sld F hX hbl hbA (4 * K + 2) rfl (by omega) (by omega) dL_law_269 ?_
  refine v_aload_n F dL_law_270 0 rfl rfl ?_
  refine v_iload F dL_law_271 rfl ?_
  refine v_iconst (v := nI 3) F dL_law_273 (by decide) ?_
  refine v_iadd F dL_law_274 ?_
  refine v_topi (nI (4 * K + 3)) (nI_add (4 * K) 3) ?_
  refine v_sld F hX hbl hbA (4 * K + 3) rfl (by omega) (by omega) dL_law_275 ?_
  refine v_cVIS F cs_RL_104 dL_law_276 19 (ci := 8) rfl rfl [19, 20, 21, 22, 23, 24, 25, 26, 27] [0, 1, 2, 3, 4, 5, 6, 7, 8, 9, 10, 11, 12, 13, 14, 15, 16, 17, 18] (wc := wM am G (snp T n mo) (S, h) (co, len) Tw (i_, ft, vl, td, tn) (ke, sp) Lo Wi) (wr := wL ad ao G L1 H1 P1 Tr1 Rg1 X1 D1 O1) rfl rfl rfl rfl rfl (by decide) (m_X8_span lau G am T n mo S h (co, len) Tw (i_, ft, vl, td, tn) (ke, sp) Lo Wi (xs (4 * K + 1)) (xs (4 * K + 2)) (xs (4 * K + 3)) I.1 I.2.2.2.1) (by decide) rfl rfl (Nat.le_of_ble_eq_true rfl) ⟨by omega, by omega⟩ (fun r2 u hm => ?_)
  obtain ⟨N1, H2, X2, Q1, K1, Lo1, Wi1⟩ := u
  refine v_w (w' := wW ad ao am G L1 H1 P1 Tr1 Rg1 X1 D1 O1 N1 H2 X2 (xStr n (xs (4 * K + 1)) (xs (4 * K + 2)) (xs (4 * K + 3)) (nI 64)) Q1 K1 Lo1 Wi1) rfl ?_
  refine v_istore (lv' := [(6, .int r2), (5, .int (nI (xStr n (xs (4 * K + 1)) (xs (4 * K + 2)) (xs (4 * K + 3)) (nI 64)))), (4, .int (nI (4 * K))), (3, .ref ao), (2, .ref (am 0)), (1, .ref (ad 0)), (0, .ref b)]) F dL_law_279 (by decide) rfl ?_
  refine v_aload_n F dL_law_281 2 rfl rfl ?_
  refine v_cVIS F cs_RL_98 dL_law_282 19 (ci := 8) rfl rfl [19, 20, 21, 22, 23, 24, 25, 26, 27] [0, 1, 2, 3, 4, 5, 6, 7, 8, 9, 10, 11, 12, 13, 14, 15, 16, 17, 18] (wc := wM am G N1 H2 X2 (xStr n (xs (4 * K + 1)) (xs (4 * K + 2)) (xs (4 * K + 3)) (nI 64)) Q1 K1 Lo1 Wi1) (wr := wL ad ao G L1 H1 P1 Tr1 Rg1 X1 D1 O1) rfl rfl rfl rfl rfl (by decide) (m_X8_thrown lau G am N1 H2 X2 (xStr n (xs (4 * K + 1)) (xs (4 * K + 2)) (xs (4 * K + 3)) (nI 64)) Q1 K1 Lo1 Wi1) (by decide) rfl rfl (Nat.le_of_ble_eq_true rfl) ⟨by omega, by omega⟩ (fun r3 u3 hr3 => ?_)
  refine v_topi (nI (xStr n (xs (4 * K + 1)) (xs (4 * K + 2)) (xs (4 * K + 3)) (nI 64))) hr3 ?_
  refine v_w (w' := wW ad ao am G L1 H1 P1 Tr1 Rg1 X1 D1 O1 N1 H2 X2 (xStr n (xs (4 * K + 1)) (xs (4 * K + 2)) (xs (4 * K + 3)) (nI 64)) Q1 K1 Lo1 Wi1) rfl ?_
  refine v_iload F dL_law_285 rfl ?_
  refine v_icmp_eq F 292 dL_law_287 (by decide) (fun _ => ?_) (fun hq => absurd rfl hq)
  refine v_iload F dL_law_292 rfl ?_
  have hcb : xStr n (xs (4 * K + 1)) (xs (4 * K + 2)) (xs (4 * K + 3)) (nI 64) < 2 ^ 31 := by
    unfold xStr
    repeat' split
    all_goals decide
  have hlr : LR (K + 1) L1 H1 P1 Tr1 Rg1 X1 D1 N1 H2 X2 := by
    have eP : P1 = P := eP
    have eT : Tr1 = Tr := eT
    have eR : Rg1 = Rg := eR
    by_cases hc : xStr n (xs (4 * K + 1)) (xs (4 * K + 2)) (xs (4 * K + 3)) (nI 64) = 0
    · obtain ⟨-, eL, eH, eX, eD⟩ := h0 hc
      obtain ⟨-, eN, eH2, eX2⟩ := hm.1 hc
      have eD : D1 = Rd := eD
      exact ⟨_, _, _, _, _, _, _, _, eL, eH, eX, eN, eH2, eX2, by rw [eP, eT, eR, eD]; exact lr_span I hkk hc⟩
    · obtain ⟨eL, eH, eX, eD⟩ := h1 hc
      obtain ⟨eN, eH2, eX2⟩ := hm.2 hc
      have eD : D1 = Rd := eD
      exact ⟨_, _, _, _, _, _, _, _, eL, eH, eX, eN, eH2, eX2, by rw [eP, eT, eR, eD]; exact I.same hkk⟩
  refine v_if_ne F 309 dL_law_294 (by decide) (fun _ => ?_) (fun hz => ?_)
  · refine v_goto F 1714 dL_law_309 (by decide) ?_
    refine v_st (w' := wW ad ao am G L1 H1 P1 Tr1 Rg1 X1 D1 O1 N1 H2 X2 (xStr n (xs (4 * K + 1)) (xs (4 * K + 2)) (xs (4 * K + 3)) (nI 64)) Q1 K1 Lo1 Wi1) (pc' := 1714) (st' := []) rfl rfl rfl [2, 3, 4, 5, 6] (lv' := lwl ad ao am b (4 * K)) rfl ?_
    refine v_widen (k' := 30 + (K + 1)) (n' := 10000 + 6 * (K + 1)) (by omega) (by omega) ?_
    exact hnx _ _ _ _ _ _ _ _ _ _ _ _ _ _ _ _ hlr
  · have hc : xStr n (xs (4 * K + 1)) (xs (4 * K + 2)) (xs (4 * K + 3)) (nI 64) = 0 := (nI_eq hcb (by decide)).mp hz
    refine v_aload_n F dL_law_297 3 rfl rfl ?_
    refine v_iconst (v := nI 0) F dL_law_298 (by decide) ?_
    refine v_laldN F dL_law_299 18 rfl 0 rfl (by decide) (by decide) (O1 0) rfl ?_
    refine v_iload F dL_law_300 rfl ?_
    refine v_i2l F dL_law_302 ?_
    refine v_lcmp F dL_law_303 ?_
    have e1 : O1 0 = r2.toInt64 := (h0 hc).1.trans (congrArg Int32.toInt64 (hm.1 hc).1.symm)
    refine v_if_eq F 309 dL_law_304 (by decide) (fun _ => ?_) (fun hq => absurd (by rw [e1]; exact lg_self _) hq)
    refine v_goto F 1714 dL_law_309 (by decide) ?_
    refine v_st (w' := wW ad ao am G L1 H1 P1 Tr1 Rg1 X1 D1 O1 N1 H2 X2 (xStr n (xs (4 * K + 1)) (xs (4 * K + 2)) (xs (4 * K + 3)) (nI 64)) Q1 K1 Lo1 Wi1) (pc' := 1714) (st' := []) rfl rfl rfl [2, 3, 4, 5, 6] (lv' := lwl ad ao am b (4 * K)) rfl ?_
    refine v_widen (k' := 30 + (K + 1)) (n' := 10000 + 6 * (K + 1)) (by omega) (by omega) ?_
    exact hnx _ _ _ _ _ _ _ _ _ _ _ _ _ _ _ _ hlr
theorem cs_RL_107 : CSV RL 107 RX8 yX8_live cX8_live 4 (some .int) 3 := ⟨wC_yX8_live, wM_RL_107, wIm_yX8_live, wSe_yX8_live, wI_RX8, by decide +kernel, by decide⟩
set_option maxHeartbeats 1000000 in
set_option maxRecDepth 100000 in
theorem lc_2 (lau : Launch) (G : GT) {p : Program} {e : Env} {s : State} {m : MethodId} {args : Array Value} {below : List Frame} {meth : Method} {c : Code} {A : Nat → Prop} {Q : State → Prop} (F : FX p room_1 s m args c code RL 9 2000 G A) (hSF : SF s) (hSH : SH A s s.heap) (hNC : NC s) (hst : lau.stackTraces = false) {b L : Nat} {xs : Nat → Int32} (hX : va_X b L xs s s.heap) (hbl : b < s.heap.size) (hbA : ¬ A b) (hL : L ≤ 2048) (ad : Nat → Nat) (ao : Nat) (am : Nat → Nat) (T : Nat → Int32) (n mo ver : Nat) (S : Nat → Int32) (h : Nat) (P : PT) (Tr : TT) (Rg : RT) (co : Nat → Int32) (len : Nat) (Rd : DT) (O : Nat → Int64) (Tw i_ : Nat) (ft : Bool) (vl : Nat) (td : Nat → Int32) (tn : Nat) (ke sp Lo Wi : Nat → Int32) {K : Nat} (hK : 4 * K + 4 ≤ L) (I : LIV K T n mo ver S h P Tr Rg co len Rd) (hnx : NX lau p e s m args below meth c G A Q ad ao am b K) : V p lau e room_1 s m args below meth c 9 G A Q (wW ad ao am G (T, n, mo, ver) (S, h) P Tr Rg (co, len) Rd O (snp T n mo) (S, h) (co, len) Tw (i_, ft, vl, td, tn) (ke, sp) Lo Wi) (30 + K) (10000 + 6 * K) 312 (lwl ad ao am b (4 * K)) [] := by
  have hkk : K < 512 := by omega
  obtain ⟨hk1, hk2⟩ := room_k hkk
  refine v_aload_n F dL_law_312 1 rfl rfl ?_
  refine v_aload_n F dL_law_313 0 rfl rfl ?_
  refine v_iload F dL_law_314 rfl ?_
  refine v_iconst (v := nI 1) F dL_law_316 (by decide) ?_
  refine v_iadd F dL_law_317 ?_
  refine v_topi (nI (4 * K + 1)) (nI_add (4 * K) 1) ?_
  refine v_sld F hX hbl hbA (4 * K + 1) rfl (by omega) (by omega) dL_law_318 ?_
  refine v_aload_n F dL_law_319 0 rfl rfl ?_
  refine v_iload F dL_law_320 rfl ?_
  refine v_iconst (v := nI 2) F dL_law_322 (by decide) ?_
  refine v_iadd F dL_law_323 ?_
  refine v_topi (nI (4 * K + 2)) (nI_add (4 * K) 2) ?_
  refine v_sld F hX hbl hbA (4 * K + 2) rfl (by omega) (by omega) dL_law_324 ?_
  refine v_aload_n F dL_law_325 0 rfl rfl ?_
  refine v_iload F dL_law_326 rfl ?_
  refine v_iconst (v := nI 3) F dL_law_328 (by decide) ?_
  refine v_iadd F dL_law_329 ?_
  refine v_topi (nI (4 * K + 3)) (nI_add (4 * K) 3) ?_
  refine v_sld F hX hbl hbA (4 * K + 3) rfl (by omega) (by omega) dL_law_330 ?_
  refine v_aload_n F dL_law_331 3 rfl rfl ?_
  refine v_cH F hSF hSH hNC ch_live dL_law_332 [0, 1, 2, 3, 4, 5, 6, 7, 8, 9, 10, 11, 12, 13, 14, 15, 16, 17, 18] [19, 20, 21, 22, 23, 24, 25, 26, 27] (wc := wL ad ao G (T, n, mo, ver) (S, h) P Tr Rg (co, len) Rd O) (wr := wM am G (snp T n mo) (S, h) (co, len) Tw (i_, ft, vl, td, tn) (ke, sp) Lo Wi) rfl rfl rfl rfl rfl (by decide) (h_live lau G ad ao T n mo ver S h P Tr Rg co len Rd O (xs (4 * K + 1)) (xs (4 * K + 2)) (xs (4 * K + 3)) K I hst) (by decide) rfl rfl (Nat.le_of_ble_eq_true rfl) ⟨by omega, by omega⟩ (fun r u hw => ?_)
  obtain ⟨L1, H1, P1, Tr1, Rg1, X1, D1, O1⟩ := u
  refine v_pick [9, 10, 11, 12, 13, 14, 15, 16, 17, 18, 19, 20, 21, 22, 23, 24, 25, 26, 27, 0, 1, 2, 3, 4, 5, 6, 7, 8] (w' := wL ad ao G L1 H1 P1 Tr1 Rg1 X1 D1 O1 ++ wM am G (snp T n mo) (S, h) (co, len) Tw (i_, ft, vl, td, tn) (ke, sp) Lo Wi) rfl rfl rfl ?_
  obtain ⟨hr1, ⟨eP, eT, eR⟩, h0, h1⟩ := hw
  refine v_topi (nI (xStr n (xs (4 * K + 1)) (xs (4 * K + 2)) (xs (4 * K + 3)) (nI 100))) hr1 ?_
  refine v_istore (lv' := [(5, .int (nI (xStr n (xs (4 * K + 1)) (xs (4 * K + 2)) (xs (4 * K + 3)) (nI 100)))), (4, .int (nI (4 * K))), (3, .ref ao), (2, .ref (am 0)), (1, .ref (ad 0)), (0, .ref b)]) F dL_law_335 (by decide) rfl ?_
  refine v_aload_n F dL_law_337 2 rfl rfl ?_
  refine v_aload_n F dL_law_338 0 rfl rfl ?_
  refine v_iload F dL_law_339 rfl ?_
  refine v_iconst (v := nI 1) F dL_law_341 (by decide) ?_
  refine v_iadd F dL_law_342 ?_
  refine v_topi (nI (4 * K + 1)) (nI_add (4 * K) 1) ?_
  refine v_sld F hX hbl hbA (4 * K + 1) rfl (by omega) (by omega) dL_law_343 ?_
  refine v_aload_n F dL_law_344 0 rfl rfl ?_
  refine v_iload F dL_law_345 rfl ?_
  refine v_iconst (v := nI 2) F dL_law_347 (by decide) ?_
  refine v_iadd F dL_law_348 ?_
  refine v_topi (nI (4 * K + 2)) (nI_add (4 * K) 2) ?_
  refine v_sld F hX hbl hbA (4 * K + 2) rfl (by omega) (by omega) dL_law_349 ?_
  refine v_aload_n F dL_law_350 0 rfl rfl ?_
  refine v_iload F dL_law_351 rfl ?_
  refine v_iconst (v := nI 3) F dL_law_353 (by decide) ?_
  refine v_iadd F dL_law_354 ?_
  refine v_topi (nI (4 * K + 3)) (nI_add (4 * K) 3) ?_
  refine v_sld F hX hbl hbA (4 * K + 3) rfl (by omega) (by omega) dL_law_355 ?_
  refine v_cVIS F cs_RL_107 dL_law_356 19 (ci := 8) rfl rfl [19, 20, 21, 22, 23, 24, 25, 26, 27] [0, 1, 2, 3, 4, 5, 6, 7, 8, 9, 10, 11, 12, 13, 14, 15, 16, 17, 18] (wc := wM am G (snp T n mo) (S, h) (co, len) Tw (i_, ft, vl, td, tn) (ke, sp) Lo Wi) (wr := wL ad ao G L1 H1 P1 Tr1 Rg1 X1 D1 O1) rfl rfl rfl rfl rfl (by decide) (m_X8_live lau G am T n mo S h (co, len) Tw (i_, ft, vl, td, tn) (ke, sp) Lo Wi (xs (4 * K + 1)) (xs (4 * K + 2)) (xs (4 * K + 3)) I.1 I.2.2.2.1) (by decide) rfl rfl (Nat.le_of_ble_eq_true rfl) ⟨by omega, by omega⟩ (fun r2 u hm => ?_)
  obtain ⟨N1, H2, X2, Q1, K1, Lo1, Wi1⟩ := u
  refine v_w (w' := wW ad ao am G L1 H1 P1 Tr1 Rg1 X1 D1 O1 N1 H2 X2 (xStr n (xs (4 * K + 1)) (xs (4 * K + 2)) (xs (4 * K + 3)) (nI 100)) Q1 K1 Lo1 Wi1) rfl ?_
  refine v_istore (lv' := [(6, .int r2), (5, .int (nI (xStr n (xs (4 * K + 1)) (xs (4 * K + 2)) (xs (4 * K + 3)) (nI 100)))), (4, .int (nI (4 * K))), (3, .ref ao), (2, .ref (am 0)), (1, .ref (ad 0)), (0, .ref b)]) F dL_law_359 (by decide) rfl ?_
  refine v_aload_n F dL_law_361 2 rfl rfl ?_
  refine v_cVIS F cs_RL_98 dL_law_362 19 (ci := 8) rfl rfl [19, 20, 21, 22, 23, 24, 25, 26, 27] [0, 1, 2, 3, 4, 5, 6, 7, 8, 9, 10, 11, 12, 13, 14, 15, 16, 17, 18] (wc := wM am G N1 H2 X2 (xStr n (xs (4 * K + 1)) (xs (4 * K + 2)) (xs (4 * K + 3)) (nI 100)) Q1 K1 Lo1 Wi1) (wr := wL ad ao G L1 H1 P1 Tr1 Rg1 X1 D1 O1) rfl rfl rfl rfl rfl (by decide) (m_X8_thrown lau G am N1 H2 X2 (xStr n (xs (4 * K + 1)) (xs (4 * K + 2)) (xs (4 * K + 3)) (nI 100)) Q1 K1 Lo1 Wi1) (by decide) rfl rfl (Nat.le_of_ble_eq_true rfl) ⟨by omega, by omega⟩ (fun r3 u3 hr3 => ?_)
  refine v_topi (nI (xStr n (xs (4 * K + 1)) (xs (4 * K + 2)) (xs (4 * K + 3)) (nI 100))) hr3 ?_
  refine v_w (w' := wW ad ao am G L1 H1 P1 Tr1 Rg1 X1 D1 O1 N1 H2 X2 (xStr n (xs (4 * K + 1)) (xs (4 * K + 2)) (xs (4 * K + 3)) (nI 100)) Q1 K1 Lo1 Wi1) rfl ?_
  refine v_iload F dL_law_365 rfl ?_
  refine v_icmp_eq F 372 dL_law_367 (by decide) (fun _ => ?_) (fun hq => absurd rfl hq)
  refine v_iload F dL_law_372 rfl ?_
  have hcb : xStr n (xs (4 * K + 1)) (xs (4 * K + 2)) (xs (4 * K + 3)) (nI 100) < 2 ^ 31 := by
    unfold xStr
    repeat' split
    all_goals decide
  have hlr : LR (K + 1) L1 H1 P1 Tr1 Rg1 X1 D1 N1 H2 X2 := by
    have eP : P1 = P := eP
    have eT : Tr1 = Tr := eT
    have eR : Rg1 = Rg := eR
    by_cases hc : xStr n (xs (4 * K + 1)) (xs (4 * K + 2)) (xs (4 * K + 3)) (nI 100) = 0
    · obtain ⟨-, eL, eH, eX, eD⟩ := h0 hc
      obtain ⟨-, eN, eH2, eX2⟩ := hm.1 hc
      have eD : D1 = Rd := eD
      exact ⟨_, _, _, _, _, _, _, _, eL, eH, eX, eN, eH2, eX2, by rw [eP, eT, eR, eD]; exact lr_live I hkk hc⟩
    · obtain ⟨eL, eH, eX, eD⟩ := h1 hc
      obtain ⟨eN, eH2, eX2⟩ := hm.2 hc
      have eD : D1 = Rd := eD
      exact ⟨_, _, _, _, _, _, _, _, eL, eH, eX, eN, eH2, eX2, by rw [eP, eT, eR, eD]; exact I.same hkk⟩
  refine v_if_ne F 389 dL_law_374 (by decide) (fun _ => ?_) (fun hz => ?_)
  · refine v_goto F 1714 dL_law_389 (by decide) ?_
    refine v_st (w' := wW ad ao am G L1 H1 P1 Tr1 Rg1 X1 D1 O1 N1 H2 X2 (xStr n (xs (4 * K + 1)) (xs (4 * K + 2)) (xs (4 * K + 3)) (nI 100)) Q1 K1 Lo1 Wi1) (pc' := 1714) (st' := []) rfl rfl rfl [2, 3, 4, 5, 6] (lv' := lwl ad ao am b (4 * K)) rfl ?_
    refine v_widen (k' := 30 + (K + 1)) (n' := 10000 + 6 * (K + 1)) (by omega) (by omega) ?_
    exact hnx _ _ _ _ _ _ _ _ _ _ _ _ _ _ _ _ hlr
  · have hc : xStr n (xs (4 * K + 1)) (xs (4 * K + 2)) (xs (4 * K + 3)) (nI 100) = 0 := (nI_eq hcb (by decide)).mp hz
    refine v_aload_n F dL_law_377 3 rfl rfl ?_
    refine v_iconst (v := nI 0) F dL_law_378 (by decide) ?_
    refine v_laldN F dL_law_379 18 rfl 0 rfl (by decide) (by decide) (O1 0) rfl ?_
    refine v_iload F dL_law_380 rfl ?_
    refine v_i2l F dL_law_382 ?_
    refine v_lcmp F dL_law_383 ?_
    have e1 : O1 0 = r2.toInt64 := (h0 hc).1.trans (congrArg Int32.toInt64 (hm.1 hc).1.symm)
    refine v_if_eq F 389 dL_law_384 (by decide) (fun _ => ?_) (fun hq => absurd (by rw [e1]; exact lg_self _) hq)
    refine v_goto F 1714 dL_law_389 (by decide) ?_
    refine v_st (w' := wW ad ao am G L1 H1 P1 Tr1 Rg1 X1 D1 O1 N1 H2 X2 (xStr n (xs (4 * K + 1)) (xs (4 * K + 2)) (xs (4 * K + 3)) (nI 100)) Q1 K1 Lo1 Wi1) (pc' := 1714) (st' := []) rfl rfl rfl [2, 3, 4, 5, 6] (lv' := lwl ad ao am b (4 * K)) rfl ?_
    refine v_widen (k' := 30 + (K + 1)) (n' := 10000 + 6 * (K + 1)) (by omega) (by omega) ?_
    exact hnx _ _ _ _ _ _ _ _ _ _ _ _ _ _ _ _ hlr
theorem cs_RL_110 : CSV RL 110 RX8 yX8_lift cX8_lift 4 (some .int) 2 := ⟨wC_yX8_lift, wM_RL_110, wIm_yX8_lift, wSe_yX8_lift, wI_RX8, by decide +kernel, by decide⟩
set_option maxHeartbeats 1000000 in
set_option maxRecDepth 100000 in
theorem lc_3 (lau : Launch) (G : GT) {p : Program} {e : Env} {s : State} {m : MethodId} {args : Array Value} {below : List Frame} {meth : Method} {c : Code} {A : Nat → Prop} {Q : State → Prop} (F : FX p room_1 s m args c code RL 9 2000 G A) (hSF : SF s) (hSH : SH A s s.heap) (hNC : NC s) (hst : lau.stackTraces = false) {b L : Nat} {xs : Nat → Int32} (hX : va_X b L xs s s.heap) (hbl : b < s.heap.size) (hbA : ¬ A b) (hL : L ≤ 2048) (ad : Nat → Nat) (ao : Nat) (am : Nat → Nat) (T : Nat → Int32) (n mo ver : Nat) (S : Nat → Int32) (h : Nat) (P : PT) (Tr : TT) (Rg : RT) (co : Nat → Int32) (len : Nat) (Rd : DT) (O : Nat → Int64) (Tw i_ : Nat) (ft : Bool) (vl : Nat) (td : Nat → Int32) (tn : Nat) (ke sp Lo Wi : Nat → Int32) {K : Nat} (hK : 4 * K + 4 ≤ L) (I : LIV K T n mo ver S h P Tr Rg co len Rd) (hnx : NX lau p e s m args below meth c G A Q ad ao am b K) : V p lau e room_1 s m args below meth c 9 G A Q (wW ad ao am G (T, n, mo, ver) (S, h) P Tr Rg (co, len) Rd O (snp T n mo) (S, h) (co, len) Tw (i_, ft, vl, td, tn) (ke, sp) Lo Wi) (30 + K) (10000 + 6 * K) 392 (lwl ad ao am b (4 * K)) [] := by
  have hkk : K < 512 := by omega
  obtain ⟨hk1, hk2⟩ := room_k hkk
  refine v_aload_n F dL_law_392 1 rfl rfl ?_
  refine v_aload_n F dL_law_393 0 rfl rfl ?_
  refine v_iload F dL_law_394 rfl ?_
  refine v_iconst (v := nI 1) F dL_law_396 (by decide) ?_
  refine v_iadd F dL_law_397 ?_
  refine v_topi (nI (4 * K + 1)) (nI_add (4 * K) 1) ?_
  refine v_sld F hX hbl hbA (4 * K + 1) rfl (by omega) (by omega) dL_law_398 ?_
  refine v_aload_n F dL_law_399 0 rfl rfl ?_
  refine v_iload F dL_law_400 rfl ?_
  refine v_iconst (v := nI 2) F dL_law_402 (by decide) ?_
  refine v_iadd F dL_law_403 ?_
  refine v_topi (nI (4 * K + 2)) (nI_add (4 * K) 2) ?_
  refine v_sld F hX hbl hbA (4 * K + 2) rfl (by omega) (by omega) dL_law_404 ?_
  refine v_aload_n F dL_law_405 3 rfl rfl ?_
  refine v_cH F hSF hSH hNC ch_lift dL_law_406 [0, 1, 2, 3, 4, 5, 6, 7, 8, 9, 10, 11, 12, 13, 14, 15, 16, 17, 18] [19, 20, 21, 22, 23, 24, 25, 26, 27] (wc := wL ad ao G (T, n, mo, ver) (S, h) P Tr Rg (co, len) Rd O) (wr := wM am G (snp T n mo) (S, h) (co, len) Tw (i_, ft, vl, td, tn) (ke, sp) Lo Wi) rfl rfl rfl rfl rfl (by decide) (h_lift lau G ad ao T n mo ver S h P Tr Rg co len Rd O (xs (4 * K + 1)) (xs (4 * K + 2)) K I hst) (by decide) rfl rfl (Nat.le_of_ble_eq_true rfl) ⟨by omega, by omega⟩ (fun r u hw => ?_)
  obtain ⟨L1, H1, P1, Tr1, Rg1, X1, D1, O1⟩ := u
  refine v_pick [9, 10, 11, 12, 13, 14, 15, 16, 17, 18, 19, 20, 21, 22, 23, 24, 25, 26, 27, 0, 1, 2, 3, 4, 5, 6, 7, 8] (w' := wL ad ao G L1 H1 P1 Tr1 Rg1 X1 D1 O1 ++ wM am G (snp T n mo) (S, h) (co, len) Tw (i_, ft, vl, td, tn) (ke, sp) Lo Wi) rfl rfl rfl ?_
  obtain ⟨hr1, ⟨eP, eT, eR⟩, h0, h1⟩ := hw
  refine v_topi (nI (xLift T n (xs (4 * K + 1)) (xs (4 * K + 2)))) hr1 ?_
  refine v_istore (lv' := [(5, .int (nI (xLift T n (xs (4 * K + 1)) (xs (4 * K + 2))))), (4, .int (nI (4 * K))), (3, .ref ao), (2, .ref (am 0)), (1, .ref (ad 0)), (0, .ref b)]) F dL_law_409 (by decide) rfl ?_
  refine v_aload_n F dL_law_411 2 rfl rfl ?_
  refine v_aload_n F dL_law_412 0 rfl rfl ?_
  refine v_iload F dL_law_413 rfl ?_
  refine v_iconst (v := nI 1) F dL_law_415 (by decide) ?_
  refine v_iadd F dL_law_416 ?_
  refine v_topi (nI (4 * K + 1)) (nI_add (4 * K) 1) ?_
  refine v_sld F hX hbl hbA (4 * K + 1) rfl (by omega) (by omega) dL_law_417 ?_
  refine v_aload_n F dL_law_418 0 rfl rfl ?_
  refine v_iload F dL_law_419 rfl ?_
  refine v_iconst (v := nI 2) F dL_law_421 (by decide) ?_
  refine v_iadd F dL_law_422 ?_
  refine v_topi (nI (4 * K + 2)) (nI_add (4 * K) 2) ?_
  refine v_sld F hX hbl hbA (4 * K + 2) rfl (by omega) (by omega) dL_law_423 ?_
  refine v_cVIS F cs_RL_110 dL_law_424 19 (ci := 8) rfl rfl [19, 20, 21, 22, 23, 24, 25, 26, 27] [0, 1, 2, 3, 4, 5, 6, 7, 8, 9, 10, 11, 12, 13, 14, 15, 16, 17, 18] (wc := wM am G (snp T n mo) (S, h) (co, len) Tw (i_, ft, vl, td, tn) (ke, sp) Lo Wi) (wr := wL ad ao G L1 H1 P1 Tr1 Rg1 X1 D1 O1) rfl rfl rfl rfl rfl (by decide) (m_X8_lift lau G am T n mo S h (co, len) Tw (i_, ft, vl, td, tn) (ke, sp) Lo Wi (xs (4 * K + 1)) (xs (4 * K + 2)) I.1 I.2.2.2.1) (by decide) rfl rfl (Nat.le_of_ble_eq_true rfl) ⟨by omega, by omega⟩ (fun r2 u hm => ?_)
  obtain ⟨N1, H2, X2, Q1, K1, Lo1, Wi1⟩ := u
  refine v_w (w' := wW ad ao am G L1 H1 P1 Tr1 Rg1 X1 D1 O1 N1 H2 X2 (xLift T n (xs (4 * K + 1)) (xs (4 * K + 2))) Q1 K1 Lo1 Wi1) rfl ?_
  refine v_istore (lv' := [(6, .int r2), (5, .int (nI (xLift T n (xs (4 * K + 1)) (xs (4 * K + 2))))), (4, .int (nI (4 * K))), (3, .ref ao), (2, .ref (am 0)), (1, .ref (ad 0)), (0, .ref b)]) F dL_law_427 (by decide) rfl ?_
  refine v_aload_n F dL_law_429 2 rfl rfl ?_
  refine v_cVIS F cs_RL_98 dL_law_430 19 (ci := 8) rfl rfl [19, 20, 21, 22, 23, 24, 25, 26, 27] [0, 1, 2, 3, 4, 5, 6, 7, 8, 9, 10, 11, 12, 13, 14, 15, 16, 17, 18] (wc := wM am G N1 H2 X2 (xLift T n (xs (4 * K + 1)) (xs (4 * K + 2))) Q1 K1 Lo1 Wi1) (wr := wL ad ao G L1 H1 P1 Tr1 Rg1 X1 D1 O1) rfl rfl rfl rfl rfl (by decide) (m_X8_thrown lau G am N1 H2 X2 (xLift T n (xs (4 * K + 1)) (xs (4 * K + 2))) Q1 K1 Lo1 Wi1) (by decide) rfl rfl (Nat.le_of_ble_eq_true rfl) ⟨by omega, by omega⟩ (fun r3 u3 hr3 => ?_)
  refine v_topi (nI (xLift T n (xs (4 * K + 1)) (xs (4 * K + 2)))) hr3 ?_
  refine v_w (w' := wW ad ao am G L1 H1 P1 Tr1 Rg1 X1 D1 O1 N1 H2 X2 (xLift T n (xs (4 * K + 1)) (xs (4 * K + 2))) Q1 K1 Lo1 Wi1) rfl ?_
  refine v_iload F dL_law_433 rfl ?_
  refine v_icmp_eq F 440 dL_law_435 (by decide) (fun _ => ?_) (fun hq => absurd rfl hq)
  refine v_iload F dL_law_440 rfl ?_
  have hcb : xLift T n (xs (4 * K + 1)) (xs (4 * K + 2)) < 2 ^ 31 := by
    unfold xLift
    repeat' split
    all_goals decide
  have hlr : LR (K + 1) L1 H1 P1 Tr1 Rg1 X1 D1 N1 H2 X2 := by
    have eP : P1 = P := eP
    have eT : Tr1 = Tr := eT
    have eR : Rg1 = Rg := eR
    by_cases hc : xLift T n (xs (4 * K + 1)) (xs (4 * K + 2)) = 0
    · obtain ⟨-, eL, eH, eX, eD⟩ := h0 hc
      obtain ⟨-, eN, eH2, eX2⟩ := hm.1 hc
      have eD : D1 = Rd := eD
      exact ⟨_, _, _, _, _, _, _, _, eL, eH, eX, eN, eH2, eX2, by rw [eP, eT, eR, eD]; exact lr_lift I hkk hc⟩
    · obtain ⟨eL, eH, eX, eD⟩ := h1 hc
      obtain ⟨eN, eH2, eX2⟩ := hm.2 hc
      have eD : D1 = Rd := eD
      exact ⟨_, _, _, _, _, _, _, _, eL, eH, eX, eN, eH2, eX2, by rw [eP, eT, eR, eD]; exact I.same hkk⟩
  refine v_if_ne F 457 dL_law_442 (by decide) (fun _ => ?_) (fun hz => ?_)
  · refine v_goto F 1714 dL_law_457 (by decide) ?_
    refine v_st (w' := wW ad ao am G L1 H1 P1 Tr1 Rg1 X1 D1 O1 N1 H2 X2 (xLift T n (xs (4 * K + 1)) (xs (4 * K + 2))) Q1 K1 Lo1 Wi1) (pc' := 1714) (st' := []) rfl rfl rfl [2, 3, 4, 5, 6] (lv' := lwl ad ao am b (4 * K)) rfl ?_
    refine v_widen (k' := 30 + (K + 1)) (n' := 10000 + 6 * (K + 1)) (by omega) (by omega) ?_
    exact hnx _ _ _ _ _ _ _ _ _ _ _ _ _ _ _ _ hlr
  · have hc : xLift T n (xs (4 * K + 1)) (xs (4 * K + 2)) = 0 := (nI_eq hcb (by decide)).mp hz
    refine v_aload_n F dL_law_445 3 rfl rfl ?_
    refine v_iconst (v := nI 0) F dL_law_446 (by decide) ?_
    refine v_laldN F dL_law_447 18 rfl 0 rfl (by decide) (by decide) (O1 0) rfl ?_
    refine v_iload F dL_law_448 rfl ?_
    refine v_i2l F dL_law_450 ?_
    refine v_lcmp F dL_law_451 ?_
    have e1 : O1 0 = r2.toInt64 := (h0 hc).1.trans (congrArg Int32.toInt64 (hm.1 hc).1.symm)
    refine v_if_eq F 457 dL_law_452 (by decide) (fun _ => ?_) (fun hq => absurd (by rw [e1]; exact lg_self _) hq)
    refine v_goto F 1714 dL_law_457 (by decide) ?_
    refine v_st (w' := wW ad ao am G L1 H1 P1 Tr1 Rg1 X1 D1 O1 N1 H2 X2 (xLift T n (xs (4 * K + 1)) (xs (4 * K + 2))) Q1 K1 Lo1 Wi1) (pc' := 1714) (st' := []) rfl rfl rfl [2, 3, 4, 5, 6] (lv' := lwl ad ao am b (4 * K)) rfl ?_
    refine v_widen (k' := 30 + (K + 1)) (n' := 10000 + 6 * (K + 1)) (by omega) (by omega) ?_
    exact hnx _ _ _ _ _ _ _ _ _ _ _ _ _ _ _ _ hlr
theorem cs_RL_113 : CSV RL 113 RX8 yX8_turn cX8_turn 5 (some .int) 3 := ⟨wC_yX8_turn, wM_RL_113, wIm_yX8_turn, wSe_yX8_turn, wI_RX8, by decide +kernel, by decide⟩
set_option maxHeartbeats 1000000 in
set_option maxRecDepth 100000 in
theorem lc_4 (lau : Launch) (G : GT) {p : Program} {e : Env} {s : State} {m : MethodId} {args : Array Value} {below : List Frame} {meth : Method} {c : Code} {A : Nat → Prop} {Q : State → Prop} (F : FX p room_1 s m args c code RL 9 2000 G A) (hSF : SF s) (hSH : SH A s s.heap) (hNC : NC s) (hst : lau.stackTraces = false) {b L : Nat} {xs : Nat → Int32} (hX : va_X b L xs s s.heap) (hbl : b < s.heap.size) (hbA : ¬ A b) (hL : L ≤ 2048) (ad : Nat → Nat) (ao : Nat) (am : Nat → Nat) (T : Nat → Int32) (n mo ver : Nat) (S : Nat → Int32) (h : Nat) (P : PT) (Tr : TT) (Rg : RT) (co : Nat → Int32) (len : Nat) (Rd : DT) (O : Nat → Int64) (Tw i_ : Nat) (ft : Bool) (vl : Nat) (td : Nat → Int32) (tn : Nat) (ke sp Lo Wi : Nat → Int32) {K : Nat} (hK : 4 * K + 4 ≤ L) (I : LIV K T n mo ver S h P Tr Rg co len Rd) (hnx : NX lau p e s m args below meth c G A Q ad ao am b K) : V p lau e room_1 s m args below meth c 9 G A Q (wW ad ao am G (T, n, mo, ver) (S, h) P Tr Rg (co, len) Rd O (snp T n mo) (S, h) (co, len) Tw (i_, ft, vl, td, tn) (ke, sp) Lo Wi) (30 + K) (10000 + 6 * K) 460 (lwl ad ao am b (4 * K)) [] := by
  have hkk : K < 512 := by omega
  obtain ⟨hk1, hk2⟩ := room_k hkk
  refine v_aload_n F dL_law_460 1 rfl rfl ?_
  refine v_aload_n F dL_law_461 0 rfl rfl ?_
  refine v_iload F dL_law_462 rfl ?_
  refine v_iconst (v := nI 1) F dL_law_464 (by decide) ?_
  refine v_iadd F dL_law_465 ?_
  refine v_topi (nI (4 * K + 1)) (nI_add (4 * K) 1) ?_
  refine v_sld F hX hbl hbA (4 * K + 1) rfl (by omega) (by omega) dL_law_466 ?_
  refine v_aload_n F dL_law_467 0 rfl rfl ?_
  refine v_iload F dL_law_468 rfl ?_
  refine v_iconst (v := nI 2) F dL_law_470 (by decide) ?_
  refine v_iadd F dL_law_471 ?_
  refine v_topi (nI (4 * K + 2)) (nI_add (4 * K) 2) ?_
  refine v_sld F hX hbl hbA (4 * K + 2) rfl (by omega) (by omega) dL_law_472 ?_
  refine v_aload_n F dL_law_473 0 rfl rfl ?_
  refine v_iload F dL_law_474 rfl ?_
  refine v_iconst (v := nI 3) F dL_law_476 (by decide) ?_
  refine v_iadd F dL_law_477 ?_
  refine v_topi (nI (4 * K + 3)) (nI_add (4 * K) 3) ?_
  refine v_sld F hX hbl hbA (4 * K + 3) rfl (by omega) (by omega) dL_law_478 ?_
  refine v_aload_n F dL_law_479 3 rfl rfl ?_
  refine v_cH F hSF hSH hNC ch_turn dL_law_480 [0, 1, 2, 3, 4, 5, 6, 7, 8, 9, 10, 11, 12, 13, 14, 15, 16, 17, 18] [19, 20, 21, 22, 23, 24, 25, 26, 27] (wc := wL ad ao G (T, n, mo, ver) (S, h) P Tr Rg (co, len) Rd O) (wr := wM am G (snp T n mo) (S, h) (co, len) Tw (i_, ft, vl, td, tn) (ke, sp) Lo Wi) rfl rfl rfl rfl rfl (by decide) (h_turn lau G ad ao T n mo ver S h P Tr Rg co len Rd O (xs (4 * K + 1)) (xs (4 * K + 2)) (xs (4 * K + 3)) K I hst) (by decide) rfl rfl (Nat.le_of_ble_eq_true rfl) ⟨by omega, by omega⟩ (fun r u hw => ?_)
  obtain ⟨L1, H1, P1, Tr1, Rg1, X1, D1, O1⟩ := u
  refine v_pick [9, 10, 11, 12, 13, 14, 15, 16, 17, 18, 19, 20, 21, 22, 23, 24, 25, 26, 27, 0, 1, 2, 3, 4, 5, 6, 7, 8] (w' := wL ad ao G L1 H1 P1 Tr1 Rg1 X1 D1 O1 ++ wM am G (snp T n mo) (S, h) (co, len) Tw (i_, ft, vl, td, tn) (ke, sp) Lo Wi) rfl rfl rfl ?_
  obtain ⟨hr1, ⟨eP, eT, eR⟩, h0, h1⟩ := hw
  refine v_topi (nI (xTurn T n (xs (4 * K + 1)) (xs (4 * K + 2)) (xs (4 * K + 3)))) hr1 ?_
  refine v_istore (lv' := [(5, .int (nI (xTurn T n (xs (4 * K + 1)) (xs (4 * K + 2)) (xs (4 * K + 3))))), (4, .int (nI (4 * K))), (3, .ref ao), (2, .ref (am 0)), (1, .ref (ad 0)), (0, .ref b)]) F dL_law_483 (by decide) rfl ?_
  refine v_aload_n F dL_law_485 2 rfl rfl ?_
  refine v_aload_n F dL_law_486 0 rfl rfl ?_
  refine v_iload F dL_law_487 rfl ?_
  refine v_iconst (v := nI 1) F dL_law_489 (by decide) ?_
  refine v_iadd F dL_law_490 ?_
  refine v_topi (nI (4 * K + 1)) (nI_add (4 * K) 1) ?_
  refine v_sld F hX hbl hbA (4 * K + 1) rfl (by omega) (by omega) dL_law_491 ?_
  refine v_aload_n F dL_law_492 0 rfl rfl ?_
  refine v_iload F dL_law_493 rfl ?_
  refine v_iconst (v := nI 2) F dL_law_495 (by decide) ?_
  refine v_iadd F dL_law_496 ?_
  refine v_topi (nI (4 * K + 2)) (nI_add (4 * K) 2) ?_
  refine v_sld F hX hbl hbA (4 * K + 2) rfl (by omega) (by omega) dL_law_497 ?_
  refine v_aload_n F dL_law_498 0 rfl rfl ?_
  refine v_iload F dL_law_499 rfl ?_
  refine v_iconst (v := nI 3) F dL_law_501 (by decide) ?_
  refine v_iadd F dL_law_502 ?_
  refine v_topi (nI (4 * K + 3)) (nI_add (4 * K) 3) ?_
  refine v_sld F hX hbl hbA (4 * K + 3) rfl (by omega) (by omega) dL_law_503 ?_
  refine v_cVIS F cs_RL_113 dL_law_504 19 (ci := 8) rfl rfl [19, 20, 21, 22, 23, 24, 25, 26, 27] [0, 1, 2, 3, 4, 5, 6, 7, 8, 9, 10, 11, 12, 13, 14, 15, 16, 17, 18] (wc := wM am G (snp T n mo) (S, h) (co, len) Tw (i_, ft, vl, td, tn) (ke, sp) Lo Wi) (wr := wL ad ao G L1 H1 P1 Tr1 Rg1 X1 D1 O1) rfl rfl rfl rfl rfl (by decide) (m_X8_turn lau G am T n mo S h (co, len) Tw (i_, ft, vl, td, tn) (ke, sp) Lo Wi (xs (4 * K + 1)) (xs (4 * K + 2)) (xs (4 * K + 3)) I.1 I.2.2.2.1) (by decide) rfl rfl (Nat.le_of_ble_eq_true rfl) ⟨by omega, by omega⟩ (fun r2 u hm => ?_)
  obtain ⟨N1, H2, X2, Q1, K1, Lo1, Wi1⟩ := u
  refine v_w (w' := wW ad ao am G L1 H1 P1 Tr1 Rg1 X1 D1 O1 N1 H2 X2 (xTurn T n (xs (4 * K + 1)) (xs (4 * K + 2)) (xs (4 * K + 3))) Q1 K1 Lo1 Wi1) rfl ?_
  refine v_istore (lv' := [(6, .int r2), (5, .int (nI (xTurn T n (xs (4 * K + 1)) (xs (4 * K + 2)) (xs (4 * K + 3))))), (4, .int (nI (4 * K))), (3, .ref ao), (2, .ref (am 0)), (1, .ref (ad 0)), (0, .ref b)]) F dL_law_507 (by decide) rfl ?_
  refine v_aload_n F dL_law_509 2 rfl rfl ?_
  refine v_cVIS F cs_RL_98 dL_law_510 19 (ci := 8) rfl rfl [19, 20, 21, 22, 23, 24, 25, 26, 27] [0, 1, 2, 3, 4, 5, 6, 7, 8, 9, 10, 11, 12, 13, 14, 15, 16, 17, 18] (wc := wM am G N1 H2 X2 (xTurn T n (xs (4 * K + 1)) (xs (4 * K + 2)) (xs (4 * K + 3))) Q1 K1 Lo1 Wi1) (wr := wL ad ao G L1 H1 P1 Tr1 Rg1 X1 D1 O1) rfl rfl rfl rfl rfl (by decide) (m_X8_thrown lau G am N1 H2 X2 (xTurn T n (xs (4 * K + 1)) (xs (4 * K + 2)) (xs (4 * K + 3))) Q1 K1 Lo1 Wi1) (by decide) rfl rfl (Nat.le_of_ble_eq_true rfl) ⟨by omega, by omega⟩ (fun r3 u3 hr3 => ?_)
  refine v_topi (nI (xTurn T n (xs (4 * K + 1)) (xs (4 * K + 2)) (xs (4 * K + 3)))) hr3 ?_
  refine v_w (w' := wW ad ao am G L1 H1 P1 Tr1 Rg1 X1 D1 O1 N1 H2 X2 (xTurn T n (xs (4 * K + 1)) (xs (4 * K + 2)) (xs (4 * K + 3))) Q1 K1 Lo1 Wi1) rfl ?_
  refine v_iload F dL_law_513 rfl ?_
  refine v_icmp_eq F 520 dL_law_515 (by decide) (fun _ => ?_) (fun hq => absurd rfl hq)
  refine v_iload F dL_law_520 rfl ?_
  have hcb : xTurn T n (xs (4 * K + 1)) (xs (4 * K + 2)) (xs (4 * K + 3)) < 2 ^ 31 := by
    unfold xTurn
    repeat' split
    all_goals decide
  have hlr : LR (K + 1) L1 H1 P1 Tr1 Rg1 X1 D1 N1 H2 X2 := by
    have eP : P1 = P := eP
    have eT : Tr1 = Tr := eT
    have eR : Rg1 = Rg := eR
    by_cases hc : xTurn T n (xs (4 * K + 1)) (xs (4 * K + 2)) (xs (4 * K + 3)) = 0
    · obtain ⟨-, eL, eH, eX, eD⟩ := h0 hc
      obtain ⟨-, eN, eH2, eX2⟩ := hm.1 hc
      have eD : D1 = Rd := eD
      exact ⟨_, _, _, _, _, _, _, _, eL, eH, eX, eN, eH2, eX2, by rw [eP, eT, eR, eD]; exact lr_turn I hkk hc⟩
    · obtain ⟨eL, eH, eX, eD⟩ := h1 hc
      obtain ⟨eN, eH2, eX2⟩ := hm.2 hc
      have eD : D1 = Rd := eD
      exact ⟨_, _, _, _, _, _, _, _, eL, eH, eX, eN, eH2, eX2, by rw [eP, eT, eR, eD]; exact I.same hkk⟩
  refine v_if_ne F 537 dL_law_522 (by decide) (fun _ => ?_) (fun hz => ?_)
  · refine v_goto F 1714 dL_law_537 (by decide) ?_
    refine v_st (w' := wW ad ao am G L1 H1 P1 Tr1 Rg1 X1 D1 O1 N1 H2 X2 (xTurn T n (xs (4 * K + 1)) (xs (4 * K + 2)) (xs (4 * K + 3))) Q1 K1 Lo1 Wi1) (pc' := 1714) (st' := []) rfl rfl rfl [2, 3, 4, 5, 6] (lv' := lwl ad ao am b (4 * K)) rfl ?_
    refine v_widen (k' := 30 + (K + 1)) (n' := 10000 + 6 * (K + 1)) (by omega) (by omega) ?_
    exact hnx _ _ _ _ _ _ _ _ _ _ _ _ _ _ _ _ hlr
  · have hc : xTurn T n (xs (4 * K + 1)) (xs (4 * K + 2)) (xs (4 * K + 3)) = 0 := (nI_eq hcb (by decide)).mp hz
    refine v_aload_n F dL_law_525 3 rfl rfl ?_
    refine v_iconst (v := nI 0) F dL_law_526 (by decide) ?_
    refine v_laldN F dL_law_527 18 rfl 0 rfl (by decide) (by decide) (O1 0) rfl ?_
    refine v_iload F dL_law_528 rfl ?_
    refine v_i2l F dL_law_530 ?_
    refine v_lcmp F dL_law_531 ?_
    have e1 : O1 0 = r2.toInt64 := (h0 hc).1.trans (congrArg Int32.toInt64 (hm.1 hc).1.symm)
    refine v_if_eq F 537 dL_law_532 (by decide) (fun _ => ?_) (fun hq => absurd (by rw [e1]; exact lg_self _) hq)
    refine v_goto F 1714 dL_law_537 (by decide) ?_
    refine v_st (w' := wW ad ao am G L1 H1 P1 Tr1 Rg1 X1 D1 O1 N1 H2 X2 (xTurn T n (xs (4 * K + 1)) (xs (4 * K + 2)) (xs (4 * K + 3))) Q1 K1 Lo1 Wi1) (pc' := 1714) (st' := []) rfl rfl rfl [2, 3, 4, 5, 6] (lv' := lwl ad ao am b (4 * K)) rfl ?_
    refine v_widen (k' := 30 + (K + 1)) (n' := 10000 + 6 * (K + 1)) (by omega) (by omega) ?_
    exact hnx _ _ _ _ _ _ _ _ _ _ _ _ _ _ _ _ hlr
theorem cs_RL_117 : CSV RL 117 RX8 yX8_remove cX8_remove 2 (some .int) 1 := ⟨wC_yX8_remove, wM_RL_117, wIm_yX8_remove, wSe_yX8_remove, wI_RX8, by decide +kernel, by decide⟩
set_option maxHeartbeats 1000000 in
set_option maxRecDepth 100000 in
theorem lc_5 (lau : Launch) (G : GT) {p : Program} {e : Env} {s : State} {m : MethodId} {args : Array Value} {below : List Frame} {meth : Method} {c : Code} {A : Nat → Prop} {Q : State → Prop} (F : FX p room_1 s m args c code RL 9 2000 G A) (hSF : SF s) (hSH : SH A s s.heap) (hNC : NC s) (hst : lau.stackTraces = false) {b L : Nat} {xs : Nat → Int32} (hX : va_X b L xs s s.heap) (hbl : b < s.heap.size) (hbA : ¬ A b) (hL : L ≤ 2048) (ad : Nat → Nat) (ao : Nat) (am : Nat → Nat) (T : Nat → Int32) (n mo ver : Nat) (S : Nat → Int32) (h : Nat) (P : PT) (Tr : TT) (Rg : RT) (co : Nat → Int32) (len : Nat) (Rd : DT) (O : Nat → Int64) (Tw i_ : Nat) (ft : Bool) (vl : Nat) (td : Nat → Int32) (tn : Nat) (ke sp Lo Wi : Nat → Int32) {K : Nat} (hK : 4 * K + 4 ≤ L) (I : LIV K T n mo ver S h P Tr Rg co len Rd) (hnx : NX lau p e s m args below meth c G A Q ad ao am b K) : V p lau e room_1 s m args below meth c 9 G A Q (wW ad ao am G (T, n, mo, ver) (S, h) P Tr Rg (co, len) Rd O (snp T n mo) (S, h) (co, len) Tw (i_, ft, vl, td, tn) (ke, sp) Lo Wi) (30 + K) (10000 + 6 * K) 540 (lwl ad ao am b (4 * K)) [] := by
  have hkk : K < 512 := by omega
  obtain ⟨hk1, hk2⟩ := room_k hkk
  refine v_aload_n F dL_law_540 1 rfl rfl ?_
  refine v_aload_n F dL_law_541 0 rfl rfl ?_
  refine v_iload F dL_law_542 rfl ?_
  refine v_iconst (v := nI 1) F dL_law_544 (by decide) ?_
  refine v_iadd F dL_law_545 ?_
  refine v_topi (nI (4 * K + 1)) (nI_add (4 * K) 1) ?_
  refine v_sld F hX hbl hbA (4 * K + 1) rfl (by omega) (by omega) dL_law_546 ?_
  refine v_aload_n F dL_law_547 3 rfl rfl ?_
  refine v_cH F hSF hSH hNC ch_remove dL_law_548 [0, 1, 2, 3, 4, 5, 6, 7, 8, 9, 10, 11, 12, 13, 14, 15, 16, 17, 18] [19, 20, 21, 22, 23, 24, 25, 26, 27] (wc := wL ad ao G (T, n, mo, ver) (S, h) P Tr Rg (co, len) Rd O) (wr := wM am G (snp T n mo) (S, h) (co, len) Tw (i_, ft, vl, td, tn) (ke, sp) Lo Wi) rfl rfl rfl rfl rfl (by decide) (h_remove lau G ad ao T n mo ver S h P Tr Rg co len Rd O (xs (4 * K + 1)) K I hst) (by decide) rfl rfl (Nat.le_of_ble_eq_true rfl) ⟨by omega, by omega⟩ (fun r u hw => ?_)
  obtain ⟨L1, H1, P1, Tr1, Rg1, X1, D1, O1⟩ := u
  refine v_pick [9, 10, 11, 12, 13, 14, 15, 16, 17, 18, 19, 20, 21, 22, 23, 24, 25, 26, 27, 0, 1, 2, 3, 4, 5, 6, 7, 8] (w' := wL ad ao G L1 H1 P1 Tr1 Rg1 X1 D1 O1 ++ wM am G (snp T n mo) (S, h) (co, len) Tw (i_, ft, vl, td, tn) (ke, sp) Lo Wi) rfl rfl rfl ?_
  obtain ⟨hr1, ⟨eP, eT, eR⟩, h0, h1⟩ := hw
  refine v_topi (nI (xRem n (xs (4 * K + 1)))) hr1 ?_
  refine v_istore (lv' := [(5, .int (nI (xRem n (xs (4 * K + 1))))), (4, .int (nI (4 * K))), (3, .ref ao), (2, .ref (am 0)), (1, .ref (ad 0)), (0, .ref b)]) F dL_law_551 (by decide) rfl ?_
  refine v_aload_n F dL_law_553 2 rfl rfl ?_
  refine v_aload_n F dL_law_554 0 rfl rfl ?_
  refine v_iload F dL_law_555 rfl ?_
  refine v_iconst (v := nI 1) F dL_law_557 (by decide) ?_
  refine v_iadd F dL_law_558 ?_
  refine v_topi (nI (4 * K + 1)) (nI_add (4 * K) 1) ?_
  refine v_sld F hX hbl hbA (4 * K + 1) rfl (by omega) (by omega) dL_law_559 ?_
  refine v_cVIS F cs_RL_117 dL_law_560 19 (ci := 8) rfl rfl [19, 20, 21, 22, 23, 24, 25, 26, 27] [0, 1, 2, 3, 4, 5, 6, 7, 8, 9, 10, 11, 12, 13, 14, 15, 16, 17, 18] (wc := wM am G (snp T n mo) (S, h) (co, len) Tw (i_, ft, vl, td, tn) (ke, sp) Lo Wi) (wr := wL ad ao G L1 H1 P1 Tr1 Rg1 X1 D1 O1) rfl rfl rfl rfl rfl (by decide) (m_X8_remove lau G am T n mo S h (co, len) Tw (i_, ft, vl, td, tn) (ke, sp) Lo Wi (xs (4 * K + 1)) I.1 I.2.2.2.1) (by decide) rfl rfl (Nat.le_of_ble_eq_true rfl) ⟨by omega, by omega⟩ (fun r2 u hm => ?_)
  obtain ⟨N1, H2, X2, Q1, K1, Lo1, Wi1⟩ := u
  refine v_w (w' := wW ad ao am G L1 H1 P1 Tr1 Rg1 X1 D1 O1 N1 H2 X2 (xRem n (xs (4 * K + 1))) Q1 K1 Lo1 Wi1) rfl ?_
  refine v_istore (lv' := [(6, .int r2), (5, .int (nI (xRem n (xs (4 * K + 1))))), (4, .int (nI (4 * K))), (3, .ref ao), (2, .ref (am 0)), (1, .ref (ad 0)), (0, .ref b)]) F dL_law_563 (by decide) rfl ?_
  refine v_aload_n F dL_law_565 2 rfl rfl ?_
  refine v_cVIS F cs_RL_98 dL_law_566 19 (ci := 8) rfl rfl [19, 20, 21, 22, 23, 24, 25, 26, 27] [0, 1, 2, 3, 4, 5, 6, 7, 8, 9, 10, 11, 12, 13, 14, 15, 16, 17, 18] (wc := wM am G N1 H2 X2 (xRem n (xs (4 * K + 1))) Q1 K1 Lo1 Wi1) (wr := wL ad ao G L1 H1 P1 Tr1 Rg1 X1 D1 O1) rfl rfl rfl rfl rfl (by decide) (m_X8_thrown lau G am N1 H2 X2 (xRem n (xs (4 * K + 1))) Q1 K1 Lo1 Wi1) (by decide) rfl rfl (Nat.le_of_ble_eq_true rfl) ⟨by omega, by omega⟩ (fun r3 u3 hr3 => ?_)
  refine v_topi (nI (xRem n (xs (4 * K + 1)))) hr3 ?_
  refine v_w (w' := wW ad ao am G L1 H1 P1 Tr1 Rg1 X1 D1 O1 N1 H2 X2 (xRem n (xs (4 * K + 1))) Q1 K1 Lo1 Wi1) rfl ?_
  refine v_iload F dL_law_569 rfl ?_
  refine v_icmp_eq F 576 dL_law_571 (by decide) (fun _ => ?_) (fun hq => absurd rfl hq)
  refine v_iload F dL_law_576 rfl ?_
  have hcb : xRem n (xs (4 * K + 1)) < 2 ^ 31 := by
    unfold xRem
    repeat' split
    all_goals decide
  have hlr : LR (K + 1) L1 H1 P1 Tr1 Rg1 X1 D1 N1 H2 X2 := by
    have eP : P1 = P := eP
    have eT : Tr1 = Tr := eT
    have eR : Rg1 = Rg := eR
    by_cases hc : xRem n (xs (4 * K + 1)) = 0
    · obtain ⟨-, eL, eH, eX, eD⟩ := h0 hc
      obtain ⟨-, eN, eH2, eX2⟩ := hm.1 hc
      have eD : D1 = Rd := eD
      exact ⟨_, _, _, _, _, _, _, _, eL, eH, eX, eN, eH2, eX2, by rw [eP, eT, eR, eD]; exact lr_remove I hkk hc⟩
    · obtain ⟨eL, eH, eX, eD⟩ := h1 hc
      obtain ⟨eN, eH2, eX2⟩ := hm.2 hc
      have eD : D1 = Rd := eD
      exact ⟨_, _, _, _, _, _, _, _, eL, eH, eX, eN, eH2, eX2, by rw [eP, eT, eR, eD]; exact I.same hkk⟩
  refine v_if_ne F 593 dL_law_578 (by decide) (fun _ => ?_) (fun hz => ?_)
  · refine v_goto F 1714 dL_law_593 (by decide) ?_
    refine v_st (w' := wW ad ao am G L1 H1 P1 Tr1 Rg1 X1 D1 O1 N1 H2 X2 (xRem n (xs (4 * K + 1))) Q1 K1 Lo1 Wi1) (pc' := 1714) (st' := []) rfl rfl rfl [2, 3, 4, 5, 6] (lv' := lwl ad ao am b (4 * K)) rfl ?_
    refine v_widen (k' := 30 + (K + 1)) (n' := 10000 + 6 * (K + 1)) (by omega) (by omega) ?_
    exact hnx _ _ _ _ _ _ _ _ _ _ _ _ _ _ _ _ hlr
  · have hc : xRem n (xs (4 * K + 1)) = 0 := (nI_eq hcb (by decide)).mp hz
    refine v_aload_n F dL_law_581 3 rfl rfl ?_
    refine v_iconst (v := nI 0) F dL_law_582 (by decide) ?_
    refine v_laldN F dL_law_583 18 rfl 0 rfl (by decide) (by decide) (O1 0) rfl ?_
    refine v_iload F dL_law_584 rfl ?_
    refine v_i2l F dL_law_586 ?_
    refine v_lcmp F dL_law_587 ?_
    have e1 : O1 0 = r2.toInt64 := (h0 hc).1.trans (congrArg Int32.toInt64 (hm.1 hc).1.symm)
    refine v_if_eq F 593 dL_law_588 (by decide) (fun _ => ?_) (fun hq => absurd (by rw [e1]; exact lg_self _) hq)
    refine v_goto F 1714 dL_law_593 (by decide) ?_
    refine v_st (w' := wW ad ao am G L1 H1 P1 Tr1 Rg1 X1 D1 O1 N1 H2 X2 (xRem n (xs (4 * K + 1))) Q1 K1 Lo1 Wi1) (pc' := 1714) (st' := []) rfl rfl rfl [2, 3, 4, 5, 6] (lv' := lwl ad ao am b (4 * K)) rfl ?_
    refine v_widen (k' := 30 + (K + 1)) (n' := 10000 + 6 * (K + 1)) (by omega) (by omega) ?_
    exact hnx _ _ _ _ _ _ _ _ _ _ _ _ _ _ _ _ hlr
theorem cs_RL_118 : CSV RL 118 RX7 yX7_prune cX7_prune 3 (some .int) 0 := ⟨wC_yX7_prune, wM_RL_118, wIm_yX7_prune, wSe_yX7_prune, wI_RX7, by decide +kernel, by decide⟩
theorem cs_RL_121 : CSV RL 121 RX8 yX8_prune cX8_prune 3 (some .int) 0 := ⟨wC_yX8_prune, wM_RL_121, wIm_yX8_prune, wSe_yX8_prune, wI_RX8, by decide +kernel, by decide⟩
set_option maxHeartbeats 1000000 in
set_option maxRecDepth 100000 in
theorem lc_6 (lau : Launch) (G : GT) {p : Program} {e : Env} {s : State} {m : MethodId} {args : Array Value} {below : List Frame} {meth : Method} {c : Code} {A : Nat → Prop} {Q : State → Prop} (F : FX p room_1 s m args c code RL 9 2000 G A) (hSF : SF s) (hSH : SH A s s.heap) (hNC : NC s) (hst : lau.stackTraces = false) {b L : Nat} {xs : Nat → Int32} (hX : va_X b L xs s s.heap) (hbl : b < s.heap.size) (hbA : ¬ A b) (hL : L ≤ 2048) (ad : Nat → Nat) (ao : Nat) (am : Nat → Nat) (T : Nat → Int32) (n mo ver : Nat) (S : Nat → Int32) (h : Nat) (P : PT) (Tr : TT) (Rg : RT) (co : Nat → Int32) (len : Nat) (Rd : DT) (O : Nat → Int64) (Tw i_ : Nat) (ft : Bool) (vl : Nat) (td : Nat → Int32) (tn : Nat) (ke sp Lo Wi : Nat → Int32) {K : Nat} (hK : 4 * K + 4 ≤ L) (I : LIV K T n mo ver S h P Tr Rg co len Rd) (hnx : NX lau p e s m args below meth c G A Q ad ao am b K) : V p lau e room_1 s m args below meth c 9 G A Q (wW ad ao am G (T, n, mo, ver) (S, h) P Tr Rg (co, len) Rd O (snp T n mo) (S, h) (co, len) Tw (i_, ft, vl, td, tn) (ke, sp) Lo Wi) (30 + K) (10000 + 6 * K) 596 (lwl ad ao am b (4 * K)) [] := by
  have hkk : K < 512 := by omega
  obtain ⟨hk1, hk2⟩ := room_k hkk
  refine v_aload_n F dL_law_596 1 rfl rfl ?_
  refine v_cVIS F cs_RL_118 dL_law_597 0 (ci := 7) rfl rfl [0, 1, 2, 3, 4, 5, 6, 7, 8, 9, 10, 11, 12, 13, 14, 15, 16, 17] [18, 19, 20, 21, 22, 23, 24, 25, 26, 27] (wc := wC ad G (T, n, mo, ver) (S, h) P Tr Rg (co, len) Rd) (wr := (ao, .inl (G.2.2.2, 1, .inr (.inl O))) :: wM am G (snp T n mo) (S, h) (co, len) Tw (i_, ft, vl, td, tn) (ke, sp) Lo Wi) rfl rfl rfl rfl rfl (by decide) (m_X7_prune lau G ad T n mo ver S h P Tr Rg (co, len) Rd I.1 I.2.2.2.1 I.2.2.2.2.2.2.2.1.2.2) (by decide) rfl rfl (Nat.le_of_ble_eq_true rfl) ⟨by omega, by omega⟩ (fun r1 u hw => ?_)
  obtain ⟨hv1, hci⟩ := hw
  refine v_pick [10, 11, 12, 13, 14, 15, 16, 17, 18, 19, 20, 21, 22, 23, 24, 25, 26, 27, 0, 1, 2, 3, 4, 5, 6, 7, 8, 9] (w' := wL ad ao G ((prS (nvr T n n) T n n).1, (prS (nvr T n n) T n n).2.1, mo, ver + (prS (nvr T n n) T n n).2.2) (pSave S h T n mo, pSaveH h) P Tr u ((co, len)) Rd O ++ wM am G (snp T n mo) (S, h) (co, len) Tw (i_, ft, vl, td, tn) (ke, sp) Lo Wi) rfl rfl rfl ?_
  refine v_aload_n F dL_law_600 2 rfl rfl ?_
  refine v_cVIS F cs_RL_121 dL_law_601 19 (ci := 8) rfl rfl [19, 20, 21, 22, 23, 24, 25, 26, 27] [0, 1, 2, 3, 4, 5, 6, 7, 8, 9, 10, 11, 12, 13, 14, 15, 16, 17, 18] (wc := wM am G (snp T n mo) (S, h) (co, len) Tw (i_, ft, vl, td, tn) (ke, sp) Lo Wi) (wr := wL ad ao G ((prS (nvr T n n) T n n).1, (prS (nvr T n n) T n n).2.1, mo, ver + (prS (nvr T n n) T n n).2.2) (pSave S h T n mo, pSaveH h) P Tr u ((co, len)) Rd O) rfl rfl rfl rfl rfl (by decide) (m_X8_prune lau G am T n mo S h (co, len) Tw (i_, ft, vl, td, tn) (ke, sp) Lo Wi I.1 I.2.2.2.1 I.2.2.1) (by decide) rfl rfl (Nat.le_of_ble_eq_true rfl) ⟨by omega, by omega⟩ (fun r2 u2 hm => ?_)
  obtain ⟨N1, H2, X2, Q1, K1, Lo1, Wi1⟩ := u2
  refine v_w (w' := wW ad ao am G ((prS (nvr T n n) T n n).1, (prS (nvr T n n) T n n).2.1, mo, ver + (prS (nvr T n n) T n n).2.2) (pSave S h T n mo, pSaveH h) P Tr u ((co, len)) Rd O N1 H2 X2 0 Q1 K1 Lo1 Wi1) rfl ?_
  obtain ⟨hv2, eN, eH2, eX2⟩ := hm.1 rfl
  have e1 : r1 = r2 := hv1.trans ((pop_eq T I.1).trans hv2.symm)
  refine v_icmp_eq F 1714 dL_law_604 (by decide) (fun _ => ?_) (fun hq => absurd e1 hq)
  refine v_st (w' := wW ad ao am G ((prS (nvr T n n) T n n).1, (prS (nvr T n n) T n n).2.1, mo, ver + (prS (nvr T n n) T n n).2.2) (pSave S h T n mo, pSaveH h) P Tr u ((co, len)) Rd O N1 H2 X2 0 Q1 K1 Lo1 Wi1) (pc' := 1714) (st' := []) rfl rfl rfl [0, 1, 2, 3, 4] (lv' := lwl ad ao am b (4 * K)) rfl ?_
  refine v_widen (k' := 30 + (K + 1)) (n' := 10000 + 6 * (K + 1)) (by omega) (by omega) ?_
  exact hnx _ _ _ _ _ _ _ _ _ _ _ _ _ _ _ _ ⟨_, _, _, _, _, _, _, _, rfl, rfl, rfl, eN, eH2, eX2, lr_prune I hkk hci⟩
theorem cs_RL_124 : CSV RL 124 RX8 yX8_go cX8_go 3 (some .int) 1 := ⟨wC_yX8_go, wM_RL_124, wIm_yX8_go, wSe_yX8_go, wI_RX8, by decide +kernel, by decide⟩
set_option maxHeartbeats 1000000 in
set_option maxRecDepth 100000 in
theorem lc_7 (lau : Launch) (G : GT) {p : Program} {e : Env} {s : State} {m : MethodId} {args : Array Value} {below : List Frame} {meth : Method} {c : Code} {A : Nat → Prop} {Q : State → Prop} (F : FX p room_1 s m args c code RL 9 2000 G A) (hSF : SF s) (hSH : SH A s s.heap) (hNC : NC s) (hst : lau.stackTraces = false) {b L : Nat} {xs : Nat → Int32} (hX : va_X b L xs s s.heap) (hbl : b < s.heap.size) (hbA : ¬ A b) (hL : L ≤ 2048) (ad : Nat → Nat) (ao : Nat) (am : Nat → Nat) (T : Nat → Int32) (n mo ver : Nat) (S : Nat → Int32) (h : Nat) (P : PT) (Tr : TT) (Rg : RT) (co : Nat → Int32) (len : Nat) (Rd : DT) (O : Nat → Int64) (Tw i_ : Nat) (ft : Bool) (vl : Nat) (td : Nat → Int32) (tn : Nat) (ke sp Lo Wi : Nat → Int32) {K : Nat} (hK : 4 * K + 4 ≤ L) (I : LIV K T n mo ver S h P Tr Rg co len Rd) (hnx : NX lau p e s m args below meth c G A Q ad ao am b K) : V p lau e room_1 s m args below meth c 9 G A Q (wW ad ao am G (T, n, mo, ver) (S, h) P Tr Rg (co, len) Rd O (snp T n mo) (S, h) (co, len) Tw (i_, ft, vl, td, tn) (ke, sp) Lo Wi) (30 + K) (10000 + 6 * K) 609 (lwl ad ao am b (4 * K)) [] := by
  have hkk : K < 512 := by omega
  obtain ⟨hk1, hk2⟩ := room_k hkk
  refine v_aload_n F dL_law_609 1 rfl rfl ?_
  refine v_aload_n F dL_law_610 0 rfl rfl ?_
  refine v_iload F dL_law_611 rfl ?_
  refine v_iconst (v := nI 1) F dL_law_613 (by decide) ?_
  refine v_iadd F dL_law_614 ?_
  refine v_topi (nI (4 * K + 1)) (nI_add (4 * K) 1) ?_
  refine v_sld F hX hbl hbA (4 * K + 1) rfl (by omega) (by omega) dL_law_615 ?_
  refine v_aload_n F dL_law_616 3 rfl rfl ?_
  refine v_cH F hSF hSH hNC ch_go dL_law_617 [0, 1, 2, 3, 4, 5, 6, 7, 8, 9, 10, 11, 12, 13, 14, 15, 16, 17, 18] [19, 20, 21, 22, 23, 24, 25, 26, 27] (wc := wL ad ao G (T, n, mo, ver) (S, h) P Tr Rg (co, len) Rd O) (wr := wM am G (snp T n mo) (S, h) (co, len) Tw (i_, ft, vl, td, tn) (ke, sp) Lo Wi) rfl rfl rfl rfl rfl (by decide) (h_go lau G ad ao T n mo ver S h P Tr Rg co len Rd O (xs (4 * K + 1)) K I hst) (by decide) rfl rfl (Nat.le_of_ble_eq_true rfl) ⟨by omega, by omega⟩ (fun r u hw => ?_)
  obtain ⟨L1, H1, P1, Tr1, Rg1, X1, D1, O1⟩ := u
  refine v_pick [9, 10, 11, 12, 13, 14, 15, 16, 17, 18, 19, 20, 21, 22, 23, 24, 25, 26, 27, 0, 1, 2, 3, 4, 5, 6, 7, 8] (w' := wL ad ao G L1 H1 P1 Tr1 Rg1 X1 D1 O1 ++ wM am G (snp T n mo) (S, h) (co, len) Tw (i_, ft, vl, td, tn) (ke, sp) Lo Wi) rfl rfl rfl ?_
  obtain ⟨hr1, ⟨eP, eT, eR⟩, h0, h1⟩ := hw
  refine v_topi (nI (xGo (xs (4 * K + 1)))) hr1 ?_
  refine v_istore (lv' := [(5, .int (nI (xGo (xs (4 * K + 1))))), (4, .int (nI (4 * K))), (3, .ref ao), (2, .ref (am 0)), (1, .ref (ad 0)), (0, .ref b)]) F dL_law_620 (by decide) rfl ?_
  refine v_aload_n F dL_law_622 2 rfl rfl ?_
  refine v_aload_n F dL_law_623 0 rfl rfl ?_
  refine v_iload F dL_law_624 rfl ?_
  refine v_iconst (v := nI 1) F dL_law_626 (by decide) ?_
  refine v_iadd F dL_law_627 ?_
  refine v_topi (nI (4 * K + 1)) (nI_add (4 * K) 1) ?_
  refine v_sld F hX hbl hbA (4 * K + 1) rfl (by omega) (by omega) dL_law_628 ?_
  refine v_cVIS F cs_RL_124 dL_law_629 19 (ci := 8) rfl rfl [19, 20, 21, 22, 23, 24, 25, 26, 27] [0, 1, 2, 3, 4, 5, 6, 7, 8, 9, 10, 11, 12, 13, 14, 15, 16, 17, 18] (wc := wM am G (snp T n mo) (S, h) (co, len) Tw (i_, ft, vl, td, tn) (ke, sp) Lo Wi) (wr := wL ad ao G L1 H1 P1 Tr1 Rg1 X1 D1 O1) rfl rfl rfl rfl rfl (by decide) (m_X8_go lau G am T n mo S h (co, len) Tw (i_, ft, vl, td, tn) (ke, sp) Lo Wi (xs (4 * K + 1)) I.1 I.2.2.2.1) (by decide) rfl rfl (Nat.le_of_ble_eq_true rfl) ⟨by omega, by omega⟩ (fun r2 u hm => ?_)
  obtain ⟨N1, H2, X2, Q1, K1, Lo1, Wi1⟩ := u
  refine v_w (w' := wW ad ao am G L1 H1 P1 Tr1 Rg1 X1 D1 O1 N1 H2 X2 (xGo (xs (4 * K + 1))) Q1 K1 Lo1 Wi1) rfl ?_
  refine v_istore (lv' := [(6, .int r2), (5, .int (nI (xGo (xs (4 * K + 1))))), (4, .int (nI (4 * K))), (3, .ref ao), (2, .ref (am 0)), (1, .ref (ad 0)), (0, .ref b)]) F dL_law_632 (by decide) rfl ?_
  refine v_aload_n F dL_law_634 2 rfl rfl ?_
  refine v_cVIS F cs_RL_98 dL_law_635 19 (ci := 8) rfl rfl [19, 20, 21, 22, 23, 24, 25, 26, 27] [0, 1, 2, 3, 4, 5, 6, 7, 8, 9, 10, 11, 12, 13, 14, 15, 16, 17, 18] (wc := wM am G N1 H2 X2 (xGo (xs (4 * K + 1))) Q1 K1 Lo1 Wi1) (wr := wL ad ao G L1 H1 P1 Tr1 Rg1 X1 D1 O1) rfl rfl rfl rfl rfl (by decide) (m_X8_thrown lau G am N1 H2 X2 (xGo (xs (4 * K + 1))) Q1 K1 Lo1 Wi1) (by decide) rfl rfl (Nat.le_of_ble_eq_true rfl) ⟨by omega, by omega⟩ (fun r3 u3 hr3 => ?_)
  refine v_topi (nI (xGo (xs (4 * K + 1)))) hr3 ?_
  refine v_w (w' := wW ad ao am G L1 H1 P1 Tr1 Rg1 X1 D1 O1 N1 H2 X2 (xGo (xs (4 * K + 1))) Q1 K1 Lo1 Wi1) rfl ?_
  refine v_iload F dL_law_638 rfl ?_
  refine v_icmp_eq F 645 dL_law_640 (by decide) (fun _ => ?_) (fun hq => absurd rfl hq)
  refine v_iload F dL_law_645 rfl ?_
  have hcb : xGo (xs (4 * K + 1)) < 2 ^ 31 := by
    unfold xGo
    repeat' split
    all_goals decide
  have hlr : LR (K + 1) L1 H1 P1 Tr1 Rg1 X1 D1 N1 H2 X2 := by
    have eP : P1 = P := eP
    have eT : Tr1 = Tr := eT
    have eR : Rg1 = Rg := eR
    by_cases hc : xGo (xs (4 * K + 1)) = 0
    · obtain ⟨-, eL, eH, eX, eD⟩ := h0 hc
      obtain ⟨-, eN, eH2, eX2⟩ := hm.1 hc
      have eD : D1 = Rd := eD
      exact ⟨_, _, _, _, _, _, _, _, eL, eH, eX, eN, eH2, eX2, by rw [eP, eT, eR, eD]; exact lr_go I hkk hc⟩
    · obtain ⟨eL, eH, eX, eD⟩ := h1 hc
      obtain ⟨eN, eH2, eX2⟩ := hm.2 hc
      have eD : D1 = Rd := eD
      exact ⟨_, _, _, _, _, _, _, _, eL, eH, eX, eN, eH2, eX2, by rw [eP, eT, eR, eD]; exact I.same hkk⟩
  refine v_if_ne F 662 dL_law_647 (by decide) (fun _ => ?_) (fun hz => ?_)
  · refine v_goto F 1714 dL_law_662 (by decide) ?_
    refine v_st (w' := wW ad ao am G L1 H1 P1 Tr1 Rg1 X1 D1 O1 N1 H2 X2 (xGo (xs (4 * K + 1))) Q1 K1 Lo1 Wi1) (pc' := 1714) (st' := []) rfl rfl rfl [2, 3, 4, 5, 6] (lv' := lwl ad ao am b (4 * K)) rfl ?_
    refine v_widen (k' := 30 + (K + 1)) (n' := 10000 + 6 * (K + 1)) (by omega) (by omega) ?_
    exact hnx _ _ _ _ _ _ _ _ _ _ _ _ _ _ _ _ hlr
  · have hc : xGo (xs (4 * K + 1)) = 0 := (nI_eq hcb (by decide)).mp hz
    refine v_aload_n F dL_law_650 3 rfl rfl ?_
    refine v_iconst (v := nI 0) F dL_law_651 (by decide) ?_
    refine v_laldN F dL_law_652 18 rfl 0 rfl (by decide) (by decide) (O1 0) rfl ?_
    refine v_iload F dL_law_653 rfl ?_
    refine v_i2l F dL_law_655 ?_
    refine v_lcmp F dL_law_656 ?_
    have e1 : O1 0 = r2.toInt64 := (h0 hc).1.trans (congrArg Int32.toInt64 (hm.1 hc).1.symm)
    refine v_if_eq F 662 dL_law_657 (by decide) (fun _ => ?_) (fun hq => absurd (by rw [e1]; exact lg_self _) hq)
    refine v_goto F 1714 dL_law_662 (by decide) ?_
    refine v_st (w' := wW ad ao am G L1 H1 P1 Tr1 Rg1 X1 D1 O1 N1 H2 X2 (xGo (xs (4 * K + 1))) Q1 K1 Lo1 Wi1) (pc' := 1714) (st' := []) rfl rfl rfl [2, 3, 4, 5, 6] (lv' := lwl ad ao am b (4 * K)) rfl ?_
    refine v_widen (k' := 30 + (K + 1)) (n' := 10000 + 6 * (K + 1)) (by omega) (by omega) ?_
    exact hnx _ _ _ _ _ _ _ _ _ _ _ _ _ _ _ _ hlr
theorem cs_RL_127 : CSV RL 127 RX8 yX8_append cX8_append 2 (some .int) 1 := ⟨wC_yX8_append, wM_RL_127, wIm_yX8_append, wSe_yX8_append, wI_RX8, by decide +kernel, by decide⟩
set_option maxHeartbeats 1000000 in
set_option maxRecDepth 100000 in
theorem lc_8 (lau : Launch) (G : GT) {p : Program} {e : Env} {s : State} {m : MethodId} {args : Array Value} {below : List Frame} {meth : Method} {c : Code} {A : Nat → Prop} {Q : State → Prop} (F : FX p room_1 s m args c code RL 9 2000 G A) (hSF : SF s) (hSH : SH A s s.heap) (hNC : NC s) (hst : lau.stackTraces = false) {b L : Nat} {xs : Nat → Int32} (hX : va_X b L xs s s.heap) (hbl : b < s.heap.size) (hbA : ¬ A b) (hL : L ≤ 2048) (ad : Nat → Nat) (ao : Nat) (am : Nat → Nat) (T : Nat → Int32) (n mo ver : Nat) (S : Nat → Int32) (h : Nat) (P : PT) (Tr : TT) (Rg : RT) (co : Nat → Int32) (len : Nat) (Rd : DT) (O : Nat → Int64) (Tw i_ : Nat) (ft : Bool) (vl : Nat) (td : Nat → Int32) (tn : Nat) (ke sp Lo Wi : Nat → Int32) {K : Nat} (hK : 4 * K + 4 ≤ L) (I : LIV K T n mo ver S h P Tr Rg co len Rd) (hnx : NX lau p e s m args below meth c G A Q ad ao am b K) : V p lau e room_1 s m args below meth c 9 G A Q (wW ad ao am G (T, n, mo, ver) (S, h) P Tr Rg (co, len) Rd O (snp T n mo) (S, h) (co, len) Tw (i_, ft, vl, td, tn) (ke, sp) Lo Wi) (30 + K) (10000 + 6 * K) 665 (lwl ad ao am b (4 * K)) [] := by
  have hkk : K < 512 := by omega
  obtain ⟨hk1, hk2⟩ := room_k hkk
  refine v_aload_n F dL_law_665 1 rfl rfl ?_
  refine v_aload_n F dL_law_666 0 rfl rfl ?_
  refine v_iload F dL_law_667 rfl ?_
  refine v_iconst (v := nI 1) F dL_law_669 (by decide) ?_
  refine v_iadd F dL_law_670 ?_
  refine v_topi (nI (4 * K + 1)) (nI_add (4 * K) 1) ?_
  refine v_sld F hX hbl hbA (4 * K + 1) rfl (by omega) (by omega) dL_law_671 ?_
  refine v_aload_n F dL_law_672 3 rfl rfl ?_
  refine v_cH F hSF hSH hNC ch_append dL_law_673 [0, 1, 2, 3, 4, 5, 6, 7, 8, 9, 10, 11, 12, 13, 14, 15, 16, 17, 18] [19, 20, 21, 22, 23, 24, 25, 26, 27] (wc := wL ad ao G (T, n, mo, ver) (S, h) P Tr Rg (co, len) Rd O) (wr := wM am G (snp T n mo) (S, h) (co, len) Tw (i_, ft, vl, td, tn) (ke, sp) Lo Wi) rfl rfl rfl rfl rfl (by decide) (h_append lau G ad ao T n mo ver S h P Tr Rg co len Rd O (xs (4 * K + 1)) K I hst) (by decide) rfl rfl (Nat.le_of_ble_eq_true rfl) ⟨by omega, by omega⟩ (fun r u hw => ?_)
  obtain ⟨L1, H1, P1, Tr1, Rg1, X1, D1, O1⟩ := u
  refine v_pick [9, 10, 11, 12, 13, 14, 15, 16, 17, 18, 19, 20, 21, 22, 23, 24, 25, 26, 27, 0, 1, 2, 3, 4, 5, 6, 7, 8] (w' := wL ad ao G L1 H1 P1 Tr1 Rg1 X1 D1 O1 ++ wM am G (snp T n mo) (S, h) (co, len) Tw (i_, ft, vl, td, tn) (ke, sp) Lo Wi) rfl rfl rfl ?_
  obtain ⟨hr1, ⟨eP, eT, eR⟩, h0, h1⟩ := hw
  refine v_topi (nI (xApp len (xs (4 * K + 1)))) hr1 ?_
  refine v_istore (lv' := [(5, .int (nI (xApp len (xs (4 * K + 1))))), (4, .int (nI (4 * K))), (3, .ref ao), (2, .ref (am 0)), (1, .ref (ad 0)), (0, .ref b)]) F dL_law_676 (by decide) rfl ?_
  refine v_aload_n F dL_law_678 2 rfl rfl ?_
  refine v_aload_n F dL_law_679 0 rfl rfl ?_
  refine v_iload F dL_law_680 rfl ?_
  refine v_iconst (v := nI 1) F dL_law_682 (by decide) ?_
  refine v_iadd F dL_law_683 ?_
  refine v_topi (nI (4 * K + 1)) (nI_add (4 * K) 1) ?_
  refine v_sld F hX hbl hbA (4 * K + 1) rfl (by omega) (by omega) dL_law_684 ?_
  refine v_cVIS F cs_RL_127 dL_law_685 19 (ci := 8) rfl rfl [19, 20, 21, 22, 23, 24, 25, 26, 27] [0, 1, 2, 3, 4, 5, 6, 7, 8, 9, 10, 11, 12, 13, 14, 15, 16, 17, 18] (wc := wM am G (snp T n mo) (S, h) (co, len) Tw (i_, ft, vl, td, tn) (ke, sp) Lo Wi) (wr := wL ad ao G L1 H1 P1 Tr1 Rg1 X1 D1 O1) rfl rfl rfl rfl rfl (by decide) (m_X8_append lau G am (snp T n mo) (S, h) co len Tw (i_, ft, vl, td, tn) (ke, sp) Lo Wi (xs (4 * K + 1)) I.2.2.2.2.2.1.1) (by decide) rfl rfl (Nat.le_of_ble_eq_true rfl) ⟨by omega, by omega⟩ (fun r2 u hm => ?_)
  obtain ⟨N1, H2, X2, Q1, K1, Lo1, Wi1⟩ := u
  refine v_w (w' := wW ad ao am G L1 H1 P1 Tr1 Rg1 X1 D1 O1 N1 H2 X2 (xApp len (xs (4 * K + 1))) Q1 K1 Lo1 Wi1) rfl ?_
  refine v_istore (lv' := [(6, .int r2), (5, .int (nI (xApp len (xs (4 * K + 1))))), (4, .int (nI (4 * K))), (3, .ref ao), (2, .ref (am 0)), (1, .ref (ad 0)), (0, .ref b)]) F dL_law_688 (by decide) rfl ?_
  refine v_aload_n F dL_law_690 2 rfl rfl ?_
  refine v_cVIS F cs_RL_98 dL_law_691 19 (ci := 8) rfl rfl [19, 20, 21, 22, 23, 24, 25, 26, 27] [0, 1, 2, 3, 4, 5, 6, 7, 8, 9, 10, 11, 12, 13, 14, 15, 16, 17, 18] (wc := wM am G N1 H2 X2 (xApp len (xs (4 * K + 1))) Q1 K1 Lo1 Wi1) (wr := wL ad ao G L1 H1 P1 Tr1 Rg1 X1 D1 O1) rfl rfl rfl rfl rfl (by decide) (m_X8_thrown lau G am N1 H2 X2 (xApp len (xs (4 * K + 1))) Q1 K1 Lo1 Wi1) (by decide) rfl rfl (Nat.le_of_ble_eq_true rfl) ⟨by omega, by omega⟩ (fun r3 u3 hr3 => ?_)
  refine v_topi (nI (xApp len (xs (4 * K + 1)))) hr3 ?_
  refine v_w (w' := wW ad ao am G L1 H1 P1 Tr1 Rg1 X1 D1 O1 N1 H2 X2 (xApp len (xs (4 * K + 1))) Q1 K1 Lo1 Wi1) rfl ?_
  refine v_iload F dL_law_694 rfl ?_
  refine v_icmp_eq F 701 dL_law_696 (by decide) (fun _ => ?_) (fun hq => absurd rfl hq)
  refine v_iload F dL_law_701 rfl ?_
  have hcb : xApp len (xs (4 * K + 1)) < 2 ^ 31 := by
    unfold xApp
    repeat' split
    all_goals decide
  have hlr : LR (K + 1) L1 H1 P1 Tr1 Rg1 X1 D1 N1 H2 X2 := by
    have eP : P1 = P := eP
    have eT : Tr1 = Tr := eT
    have eR : Rg1 = Rg := eR
    by_cases hc : xApp len (xs (4 * K + 1)) = 0
    · obtain ⟨-, eL, eH, eX, eD⟩ := h0 hc
      obtain ⟨-, eN, eH2, eX2⟩ := hm.1 hc
      have eD : D1 = Rd := eD
      exact ⟨_, _, _, _, _, _, _, _, eL, eH, eX, eN, eH2, eX2, by rw [eP, eT, eR, eD]; exact lr_append I hkk hc⟩
    · obtain ⟨eL, eH, eX, eD⟩ := h1 hc
      obtain ⟨eN, eH2, eX2⟩ := hm.2 hc
      have eD : D1 = Rd := eD
      exact ⟨_, _, _, _, _, _, _, _, eL, eH, eX, eN, eH2, eX2, by rw [eP, eT, eR, eD]; exact I.same hkk⟩
  refine v_if_ne F 718 dL_law_703 (by decide) (fun _ => ?_) (fun hz => ?_)
  · refine v_goto F 1714 dL_law_718 (by decide) ?_
    refine v_st (w' := wW ad ao am G L1 H1 P1 Tr1 Rg1 X1 D1 O1 N1 H2 X2 (xApp len (xs (4 * K + 1))) Q1 K1 Lo1 Wi1) (pc' := 1714) (st' := []) rfl rfl rfl [2, 3, 4, 5, 6] (lv' := lwl ad ao am b (4 * K)) rfl ?_
    refine v_widen (k' := 30 + (K + 1)) (n' := 10000 + 6 * (K + 1)) (by omega) (by omega) ?_
    exact hnx _ _ _ _ _ _ _ _ _ _ _ _ _ _ _ _ hlr
  · have hc : xApp len (xs (4 * K + 1)) = 0 := (nI_eq hcb (by decide)).mp hz
    refine v_aload_n F dL_law_706 3 rfl rfl ?_
    refine v_iconst (v := nI 0) F dL_law_707 (by decide) ?_
    refine v_laldN F dL_law_708 18 rfl 0 rfl (by decide) (by decide) (O1 0) rfl ?_
    refine v_iload F dL_law_709 rfl ?_
    refine v_i2l F dL_law_711 ?_
    refine v_lcmp F dL_law_712 ?_
    have e1 : O1 0 = r2.toInt64 := (h0 hc).1.trans (congrArg Int32.toInt64 (hm.1 hc).1.symm)
    refine v_if_eq F 718 dL_law_713 (by decide) (fun _ => ?_) (fun hq => absurd (by rw [e1]; exact lg_self _) hq)
    refine v_goto F 1714 dL_law_718 (by decide) ?_
    refine v_st (w' := wW ad ao am G L1 H1 P1 Tr1 Rg1 X1 D1 O1 N1 H2 X2 (xApp len (xs (4 * K + 1))) Q1 K1 Lo1 Wi1) (pc' := 1714) (st' := []) rfl rfl rfl [2, 3, 4, 5, 6] (lv' := lwl ad ao am b (4 * K)) rfl ?_
    refine v_widen (k' := 30 + (K + 1)) (n' := 10000 + 6 * (K + 1)) (by omega) (by omega) ?_
    exact hnx _ _ _ _ _ _ _ _ _ _ _ _ _ _ _ _ hlr
theorem cs_RL_128 : CSV RL 128 RX7 yX7_clearBuffer cX7_clearBuffer 2 (some .int) 0 := ⟨wC_yX7_clearBuffer, wM_RL_128, wIm_yX7_clearBuffer, wSe_yX7_clearBuffer, wI_RX7, by decide +kernel, by decide⟩
theorem cs_RL_131 : CSV RL 131 RX8 yX8_clearBuffer cX8_clearBuffer 2 (some .int) 0 := ⟨wC_yX8_clearBuffer, wM_RL_131, wIm_yX8_clearBuffer, wSe_yX8_clearBuffer, wI_RX8, by decide +kernel, by decide⟩
set_option maxHeartbeats 1000000 in
set_option maxRecDepth 100000 in
theorem lc_9 (lau : Launch) (G : GT) {p : Program} {e : Env} {s : State} {m : MethodId} {args : Array Value} {below : List Frame} {meth : Method} {c : Code} {A : Nat → Prop} {Q : State → Prop} (F : FX p room_1 s m args c code RL 9 2000 G A) (hSF : SF s) (hSH : SH A s s.heap) (hNC : NC s) (hst : lau.stackTraces = false) {b L : Nat} {xs : Nat → Int32} (hX : va_X b L xs s s.heap) (hbl : b < s.heap.size) (hbA : ¬ A b) (hL : L ≤ 2048) (ad : Nat → Nat) (ao : Nat) (am : Nat → Nat) (T : Nat → Int32) (n mo ver : Nat) (S : Nat → Int32) (h : Nat) (P : PT) (Tr : TT) (Rg : RT) (co : Nat → Int32) (len : Nat) (Rd : DT) (O : Nat → Int64) (Tw i_ : Nat) (ft : Bool) (vl : Nat) (td : Nat → Int32) (tn : Nat) (ke sp Lo Wi : Nat → Int32) {K : Nat} (hK : 4 * K + 4 ≤ L) (I : LIV K T n mo ver S h P Tr Rg co len Rd) (hnx : NX lau p e s m args below meth c G A Q ad ao am b K) : V p lau e room_1 s m args below meth c 9 G A Q (wW ad ao am G (T, n, mo, ver) (S, h) P Tr Rg (co, len) Rd O (snp T n mo) (S, h) (co, len) Tw (i_, ft, vl, td, tn) (ke, sp) Lo Wi) (30 + K) (10000 + 6 * K) 721 (lwl ad ao am b (4 * K)) [] := by
  have hkk : K < 512 := by omega
  obtain ⟨hk1, hk2⟩ := room_k hkk
  refine v_aload_n F dL_law_721 1 rfl rfl ?_
  refine v_cVIS F cs_RL_128 dL_law_722 0 (ci := 7) rfl rfl [0, 1, 2, 3, 4, 5, 6, 7, 8, 9, 10, 11, 12, 13, 14, 15, 16, 17] [18, 19, 20, 21, 22, 23, 24, 25, 26, 27] (wc := wC ad G (T, n, mo, ver) (S, h) P Tr Rg (co, len) Rd) (wr := (ao, .inl (G.2.2.2, 1, .inr (.inl O))) :: wM am G (snp T n mo) (S, h) (co, len) Tw (i_, ft, vl, td, tn) (ke, sp) Lo Wi) rfl rfl rfl rfl rfl (by decide) (m_X7_clearBuffer lau G ad (T, n, mo, ver) (S, h) P Tr Rg co len Rd) (by decide) rfl rfl (Nat.le_of_ble_eq_true rfl) ⟨by omega, by omega⟩ (fun r1 u hw => ?_)
  have hv1 := hw
  refine v_pick [10, 11, 12, 13, 14, 15, 16, 17, 18, 19, 20, 21, 22, 23, 24, 25, 26, 27, 0, 1, 2, 3, 4, 5, 6, 7, 8, 9] (w' := wL ad ao G ((T, n, mo, ver)) ((S, h)) P Tr Rg (co, 0) Rd O ++ wM am G (snp T n mo) (S, h) (co, len) Tw (i_, ft, vl, td, tn) (ke, sp) Lo Wi) rfl rfl rfl ?_
  refine v_aload_n F dL_law_725 2 rfl rfl ?_
  refine v_cVIS F cs_RL_131 dL_law_726 19 (ci := 8) rfl rfl [19, 20, 21, 22, 23, 24, 25, 26, 27] [0, 1, 2, 3, 4, 5, 6, 7, 8, 9, 10, 11, 12, 13, 14, 15, 16, 17, 18] (wc := wM am G (snp T n mo) (S, h) (co, len) Tw (i_, ft, vl, td, tn) (ke, sp) Lo Wi) (wr := wL ad ao G ((T, n, mo, ver)) ((S, h)) P Tr Rg (co, 0) Rd O) rfl rfl rfl rfl rfl (by decide) (m_X8_clearBuffer lau G am (snp T n mo) (S, h) co len Tw (i_, ft, vl, td, tn) (ke, sp) Lo Wi) (by decide) rfl rfl (Nat.le_of_ble_eq_true rfl) ⟨by omega, by omega⟩ (fun r2 u2 hm => ?_)
  obtain ⟨N1, H2, X2, Q1, K1, Lo1, Wi1⟩ := u2
  refine v_w (w' := wW ad ao am G ((T, n, mo, ver)) ((S, h)) P Tr Rg (co, 0) Rd O N1 H2 X2 0 Q1 K1 Lo1 Wi1) rfl ?_
  obtain ⟨hv2, eN, eH2, eX2⟩ := hm.1 rfl
  have e1 : r1 = r2 := hv1.trans hv2.symm
  refine v_icmp_eq F 1714 dL_law_729 (by decide) (fun _ => ?_) (fun hq => absurd e1 hq)
  refine v_st (w' := wW ad ao am G ((T, n, mo, ver)) ((S, h)) P Tr Rg (co, 0) Rd O N1 H2 X2 0 Q1 K1 Lo1 Wi1) (pc' := 1714) (st' := []) rfl rfl rfl [0, 1, 2, 3, 4] (lv' := lwl ad ao am b (4 * K)) rfl ?_
  refine v_widen (k' := 30 + (K + 1)) (n' := 10000 + 6 * (K + 1)) (by omega) (by omega) ?_
  exact hnx _ _ _ _ _ _ _ _ _ _ _ _ _ _ _ _ ⟨_, _, _, _, _, _, _, _, rfl, rfl, rfl, eN, eH2, eX2, I.text hkk TXOK_0 I.2.2.2.2.2.2.1⟩
theorem cs_RL_132 : CSV RL 132 RX7 yX7_firstError cX7_firstError 1 (some .int) 0 := ⟨wC_yX7_firstError, wM_RL_132, wIm_yX7_firstError, wSe_yX7_firstError, wI_RX7, by decide +kernel, by decide⟩
theorem cs_RL_135 : CSV RL 135 RX8 yX8_firstError cX8_firstError 2 (some .int) 0 := ⟨wC_yX8_firstError, wM_RL_135, wIm_yX8_firstError, wSe_yX8_firstError, wI_RX8, by decide +kernel, by decide⟩
set_option maxHeartbeats 1000000 in
set_option maxRecDepth 100000 in
theorem lc_10 (lau : Launch) (G : GT) {p : Program} {e : Env} {s : State} {m : MethodId} {args : Array Value} {below : List Frame} {meth : Method} {c : Code} {A : Nat → Prop} {Q : State → Prop} (F : FX p room_1 s m args c code RL 9 2000 G A) (hSF : SF s) (hSH : SH A s s.heap) (hNC : NC s) (hst : lau.stackTraces = false) {b L : Nat} {xs : Nat → Int32} (hX : va_X b L xs s s.heap) (hbl : b < s.heap.size) (hbA : ¬ A b) (hL : L ≤ 2048) (ad : Nat → Nat) (ao : Nat) (am : Nat → Nat) (T : Nat → Int32) (n mo ver : Nat) (S : Nat → Int32) (h : Nat) (P : PT) (Tr : TT) (Rg : RT) (co : Nat → Int32) (len : Nat) (Rd : DT) (O : Nat → Int64) (Tw i_ : Nat) (ft : Bool) (vl : Nat) (td : Nat → Int32) (tn : Nat) (ke sp Lo Wi : Nat → Int32) {K : Nat} (hK : 4 * K + 4 ≤ L) (I : LIV K T n mo ver S h P Tr Rg co len Rd) (hnx : NX lau p e s m args below meth c G A Q ad ao am b K) : V p lau e room_1 s m args below meth c 9 G A Q (wW ad ao am G (T, n, mo, ver) (S, h) P Tr Rg (co, len) Rd O (snp T n mo) (S, h) (co, len) Tw (i_, ft, vl, td, tn) (ke, sp) Lo Wi) (30 + K) (10000 + 6 * K) 734 (lwl ad ao am b (4 * K)) [] := by
  have hkk : K < 512 := by omega
  obtain ⟨hk1, hk2⟩ := room_k hkk
  refine v_aload_n F dL_law_734 1 rfl rfl ?_
  refine v_cVIS F cs_RL_132 dL_law_735 0 (ci := 7) rfl rfl [0, 1, 2, 3, 4, 5, 6, 7, 8, 9, 10, 11, 12, 13, 14, 15, 16, 17] [18, 19, 20, 21, 22, 23, 24, 25, 26, 27] (wc := wC ad G (T, n, mo, ver) (S, h) P Tr Rg (co, len) Rd) (wr := (ao, .inl (G.2.2.2, 1, .inr (.inl O))) :: wM am G (snp T n mo) (S, h) (co, len) Tw (i_, ft, vl, td, tn) (ke, sp) Lo Wi) rfl rfl rfl rfl rfl (by decide) (m_X7_firstError lau G ad (T, n, mo, ver) (S, h) P Tr Rg co len Rd I.2.2.2.2.2.1 I.2.2.2.2.2.2.1) (by decide) rfl rfl (Nat.le_of_ble_eq_true rfl) ⟨by omega, by omega⟩ (fun r1 u hw => ?_)
  have hv1 := hw
  refine v_pick [10, 11, 12, 13, 14, 15, 16, 17, 18, 19, 20, 21, 22, 23, 24, 25, 26, 27, 0, 1, 2, 3, 4, 5, 6, 7, 8, 9] (w' := wL ad ao G ((T, n, mo, ver)) ((S, h)) P Tr Rg (co, len) (rRun Rd co (min (rErr Rd co len + 1) len)) O ++ wM am G (snp T n mo) (S, h) (co, len) Tw (i_, ft, vl, td, tn) (ke, sp) Lo Wi) rfl rfl rfl ?_
  refine v_aload_n F dL_law_738 2 rfl rfl ?_
  refine v_cVIS F cs_RL_135 dL_law_739 19 (ci := 8) rfl rfl [19, 20, 21, 22, 23, 24, 25, 26, 27] [0, 1, 2, 3, 4, 5, 6, 7, 8, 9, 10, 11, 12, 13, 14, 15, 16, 17, 18] (wc := wM am G (snp T n mo) (S, h) (co, len) Tw (i_, ft, vl, td, tn) (ke, sp) Lo Wi) (wr := wL ad ao G ((T, n, mo, ver)) ((S, h)) P Tr Rg (co, len) (rRun Rd co (min (rErr Rd co len + 1) len)) O) rfl rfl rfl rfl rfl (by decide) (m_X8_firstError lau G am (snp T n mo) (S, h) co len Tw i_ ft vl td tn (ke, sp) Lo Wi Rd I.2.2.2.2.2.1) (by decide) rfl rfl (Nat.le_of_ble_eq_true rfl) ⟨by omega, by omega⟩ (fun r2 u2 hm => ?_)
  obtain ⟨N1, H2, X2, Q1, K1, Lo1, Wi1⟩ := u2
  refine v_w (w' := wW ad ao am G ((T, n, mo, ver)) ((S, h)) P Tr Rg (co, len) (rRun Rd co (min (rErr Rd co len + 1) len)) O N1 H2 X2 0 Q1 K1 Lo1 Wi1) rfl ?_
  obtain ⟨hv2, eN, eH2, eX2⟩ := hm.1 rfl
  have e1 : r1 = r2 := hv1.trans hv2.symm
  refine v_icmp_eq F 1714 dL_law_742 (by decide) (fun _ => ?_) (fun hq => absurd e1 hq)
  refine v_st (w' := wW ad ao am G ((T, n, mo, ver)) ((S, h)) P Tr Rg (co, len) (rRun Rd co (min (rErr Rd co len + 1) len)) O N1 H2 X2 0 Q1 K1 Lo1 Wi1) (pc' := 1714) (st' := []) rfl rfl rfl [0, 1, 2, 3, 4] (lv' := lwl ad ao am b (4 * K)) rfl ?_
  refine v_widen (k' := 30 + (K + 1)) (n' := 10000 + 6 * (K + 1)) (by omega) (by omega) ?_
  exact hnx _ _ _ _ _ _ _ _ _ _ _ _ _ _ _ _ ⟨_, _, _, _, _, _, _, _, rfl, rfl, rfl, eN, eH2, eX2, lr_err I hkk⟩
theorem cs_RL_139 : CSV RL 139 RX8 yX8_addAll cX8_addAll 2 (some .int) 0 := ⟨wC_yX8_addAll, wM_RL_139, wIm_yX8_addAll, wSe_yX8_addAll, wI_RX8, by decide +kernel, by decide⟩
set_option maxHeartbeats 1000000 in
set_option maxRecDepth 100000 in
theorem lc_11 (lau : Launch) (G : GT) {p : Program} {e : Env} {s : State} {m : MethodId} {args : Array Value} {below : List Frame} {meth : Method} {c : Code} {A : Nat → Prop} {Q : State → Prop} (F : FX p room_1 s m args c code RL 9 2000 G A) (hSF : SF s) (hSH : SH A s s.heap) (hNC : NC s) (hst : lau.stackTraces = false) {b L : Nat} {xs : Nat → Int32} (hX : va_X b L xs s s.heap) (hbl : b < s.heap.size) (hbA : ¬ A b) (hL : L ≤ 2048) (ad : Nat → Nat) (ao : Nat) (am : Nat → Nat) (T : Nat → Int32) (n mo ver : Nat) (S : Nat → Int32) (h : Nat) (P : PT) (Tr : TT) (Rg : RT) (co : Nat → Int32) (len : Nat) (Rd : DT) (O : Nat → Int64) (Tw i_ : Nat) (ft : Bool) (vl : Nat) (td : Nat → Int32) (tn : Nat) (ke sp Lo Wi : Nat → Int32) {K : Nat} (hK : 4 * K + 4 ≤ L) (I : LIV K T n mo ver S h P Tr Rg co len Rd) (hnx : NX lau p e s m args below meth c G A Q ad ao am b K) : V p lau e room_1 s m args below meth c 9 G A Q (wW ad ao am G (T, n, mo, ver) (S, h) P Tr Rg (co, len) Rd O (snp T n mo) (S, h) (co, len) Tw (i_, ft, vl, td, tn) (ke, sp) Lo Wi) (30 + K) (10000 + 6 * K) 747 (lwl ad ao am b (4 * K)) [] := by
  have hkk : K < 512 := by omega
  obtain ⟨hk1, hk2⟩ := room_k hkk
  refine v_aload_n F dL_law_747 1 rfl rfl ?_
  refine v_aload_n F dL_law_748 3 rfl rfl ?_
  refine v_cH F hSF hSH hNC ch_addAll dL_law_749 [0, 1, 2, 3, 4, 5, 6, 7, 8, 9, 10, 11, 12, 13, 14, 15, 16, 17, 18] [19, 20, 21, 22, 23, 24, 25, 26, 27] (wc := wL ad ao G (T, n, mo, ver) (S, h) P Tr Rg (co, len) Rd O) (wr := wM am G (snp T n mo) (S, h) (co, len) Tw (i_, ft, vl, td, tn) (ke, sp) Lo Wi) rfl rfl rfl rfl rfl (by decide) (h_addAll lau G ad ao T n mo ver S h P Tr Rg co len Rd O K I hst) (by decide) rfl rfl (Nat.le_of_ble_eq_true rfl) ⟨by omega, by omega⟩ (fun r u hw => ?_)
  obtain ⟨L1, H1, P1, Tr1, Rg1, X1, D1, O1⟩ := u
  refine v_pick [9, 10, 11, 12, 13, 14, 15, 16, 17, 18, 19, 20, 21, 22, 23, 24, 25, 26, 27, 0, 1, 2, 3, 4, 5, 6, 7, 8] (w' := wL ad ao G L1 H1 P1 Tr1 Rg1 X1 D1 O1 ++ wM am G (snp T n mo) (S, h) (co, len) Tw (i_, ft, vl, td, tn) (ke, sp) Lo Wi) rfl rfl rfl ?_
  obtain ⟨hr1, ⟨eP, eT, eR⟩, h0, h1⟩ := hw
  refine v_topi (nI (xAll n Rd co len)) hr1 ?_
  refine v_istore (lv' := [(5, .int (nI (xAll n Rd co len))), (4, .int (nI (4 * K))), (3, .ref ao), (2, .ref (am 0)), (1, .ref (ad 0)), (0, .ref b)]) F dL_law_752 (by decide) rfl ?_
  refine v_aload_n F dL_law_754 2 rfl rfl ?_
  refine v_cVIS F cs_RL_139 dL_law_755 19 (ci := 8) rfl rfl [19, 20, 21, 22, 23, 24, 25, 26, 27] [0, 1, 2, 3, 4, 5, 6, 7, 8, 9, 10, 11, 12, 13, 14, 15, 16, 17, 18] (wc := wM am G (snp T n mo) (S, h) (co, len) Tw (i_, ft, vl, td, tn) (ke, sp) Lo Wi) (wr := wL ad ao G L1 H1 P1 Tr1 Rg1 X1 D1 O1) rfl rfl rfl rfl rfl (by decide) (m_X8_addAll lau G am T n mo S h co len Tw i_ ft vl td tn (ke, sp) Lo Wi Rd I.2.2.2.2.2.1 I.1 I.2.2.2.1) (by decide) rfl rfl (Nat.le_of_ble_eq_true rfl) ⟨by omega, by omega⟩ (fun r2 u hm => ?_)
  obtain ⟨N1, H2, X2, Q1, K1, Lo1, Wi1⟩ := u
  refine v_w (w' := wW ad ao am G L1 H1 P1 Tr1 Rg1 X1 D1 O1 N1 H2 X2 (xAll n Rd co len) Q1 K1 Lo1 Wi1) rfl ?_
  refine v_istore (lv' := [(6, .int r2), (5, .int (nI (xAll n Rd co len))), (4, .int (nI (4 * K))), (3, .ref ao), (2, .ref (am 0)), (1, .ref (ad 0)), (0, .ref b)]) F dL_law_758 (by decide) rfl ?_
  refine v_aload_n F dL_law_760 2 rfl rfl ?_
  refine v_cVIS F cs_RL_98 dL_law_761 19 (ci := 8) rfl rfl [19, 20, 21, 22, 23, 24, 25, 26, 27] [0, 1, 2, 3, 4, 5, 6, 7, 8, 9, 10, 11, 12, 13, 14, 15, 16, 17, 18] (wc := wM am G N1 H2 X2 (xAll n Rd co len) Q1 K1 Lo1 Wi1) (wr := wL ad ao G L1 H1 P1 Tr1 Rg1 X1 D1 O1) rfl rfl rfl rfl rfl (by decide) (m_X8_thrown lau G am N1 H2 X2 (xAll n Rd co len) Q1 K1 Lo1 Wi1) (by decide) rfl rfl (Nat.le_of_ble_eq_true rfl) ⟨by omega, by omega⟩ (fun r3 u3 hr3 => ?_)
  refine v_topi (nI (xAll n Rd co len)) hr3 ?_
  refine v_w (w' := wW ad ao am G L1 H1 P1 Tr1 Rg1 X1 D1 O1 N1 H2 X2 (xAll n Rd co len) Q1 K1 Lo1 Wi1) rfl ?_
  refine v_iload F dL_law_764 rfl ?_
  refine v_icmp_eq F 771 dL_law_766 (by decide) (fun _ => ?_) (fun hq => absurd rfl hq)
  refine v_iload F dL_law_771 rfl ?_
  have hcb : xAll n Rd co len < 2 ^ 31 := by
    unfold xAll
    repeat' split
    all_goals decide
  have hlr : LR (K + 1) L1 H1 P1 Tr1 Rg1 X1 D1 N1 H2 X2 := by
    have eP : P1 = P := eP
    have eT : Tr1 = Tr := eT
    have eR : Rg1 = Rg := eR
    by_cases hc : xAll n Rd co len = 0
    · obtain ⟨-, eL, eH, eX, eD⟩ := h0 hc
      obtain ⟨-, eN, eH2, eX2⟩ := hm.1 hc
      have eD : D1 = (rRun (rRun Rd co (min (rErr Rd co len + 1) len)) co len) := eD
      obtain ⟨e9, hl9⟩ := lr_addAll I hkk hc
      exact ⟨_, _, _, _, _, _, _, _, eL, eH, eX, eN.trans (by rw [e9]), eH2, eX2, by rw [eP, eT, eR, eD]; exact hl9⟩
    · obtain ⟨eL, eH, eX, eD⟩ := h1 hc
      obtain ⟨eN, eH2, eX2⟩ := hm.2 hc
      have eD : D1 = (rRun Rd co (min (rErr Rd co len + 1) len)) := eD
      exact ⟨_, _, _, _, _, _, _, _, eL, eH, eX, eN, eH2, eX2, by rw [eP, eT, eR, eD]; exact lr_err I hkk⟩
  refine v_if_ne F 788 dL_law_773 (by decide) (fun _ => ?_) (fun hz => ?_)
  · refine v_goto F 1714 dL_law_788 (by decide) ?_
    refine v_st (w' := wW ad ao am G L1 H1 P1 Tr1 Rg1 X1 D1 O1 N1 H2 X2 (xAll n Rd co len) Q1 K1 Lo1 Wi1) (pc' := 1714) (st' := []) rfl rfl rfl [2, 3, 4, 5, 6] (lv' := lwl ad ao am b (4 * K)) rfl ?_
    refine v_widen (k' := 30 + (K + 1)) (n' := 10000 + 6 * (K + 1)) (by omega) (by omega) ?_
    exact hnx _ _ _ _ _ _ _ _ _ _ _ _ _ _ _ _ hlr
  · have hc : xAll n Rd co len = 0 := (nI_eq hcb (by decide)).mp hz
    refine v_aload_n F dL_law_776 3 rfl rfl ?_
    refine v_iconst (v := nI 0) F dL_law_777 (by decide) ?_
    refine v_laldN F dL_law_778 18 rfl 0 rfl (by decide) (by decide) (O1 0) rfl ?_
    refine v_iload F dL_law_779 rfl ?_
    refine v_i2l F dL_law_781 ?_
    refine v_lcmp F dL_law_782 ?_
    have e1 : O1 0 = r2.toInt64 := (h0 hc).1.trans (congrArg Int32.toInt64 (hm.1 hc).1.symm)
    refine v_if_eq F 788 dL_law_783 (by decide) (fun _ => ?_) (fun hq => absurd (by rw [e1]; exact lg_self _) hq)
    refine v_goto F 1714 dL_law_788 (by decide) ?_
    refine v_st (w' := wW ad ao am G L1 H1 P1 Tr1 Rg1 X1 D1 O1 N1 H2 X2 (xAll n Rd co len) Q1 K1 Lo1 Wi1) (pc' := 1714) (st' := []) rfl rfl rfl [2, 3, 4, 5, 6] (lv' := lwl ad ao am b (4 * K)) rfl ?_
    refine v_widen (k' := 30 + (K + 1)) (n' := 10000 + 6 * (K + 1)) (by omega) (by omega) ?_
    exact hnx _ _ _ _ _ _ _ _ _ _ _ _ _ _ _ _ hlr
theorem cs_RL_142 : CSV RL 142 RX8 yX8_undo cX8_undo 2 (some .int) 0 := ⟨wC_yX8_undo, wM_RL_142, wIm_yX8_undo, wSe_yX8_undo, wI_RX8, by decide +kernel, by decide⟩
set_option maxHeartbeats 1000000 in
set_option maxRecDepth 100000 in
theorem lc_12 (lau : Launch) (G : GT) {p : Program} {e : Env} {s : State} {m : MethodId} {args : Array Value} {below : List Frame} {meth : Method} {c : Code} {A : Nat → Prop} {Q : State → Prop} (F : FX p room_1 s m args c code RL 9 2000 G A) (hSF : SF s) (hSH : SH A s s.heap) (hNC : NC s) (hst : lau.stackTraces = false) {b L : Nat} {xs : Nat → Int32} (hX : va_X b L xs s s.heap) (hbl : b < s.heap.size) (hbA : ¬ A b) (hL : L ≤ 2048) (ad : Nat → Nat) (ao : Nat) (am : Nat → Nat) (T : Nat → Int32) (n mo ver : Nat) (S : Nat → Int32) (h : Nat) (P : PT) (Tr : TT) (Rg : RT) (co : Nat → Int32) (len : Nat) (Rd : DT) (O : Nat → Int64) (Tw i_ : Nat) (ft : Bool) (vl : Nat) (td : Nat → Int32) (tn : Nat) (ke sp Lo Wi : Nat → Int32) {K : Nat} (hK : 4 * K + 4 ≤ L) (I : LIV K T n mo ver S h P Tr Rg co len Rd) (hnx : NX lau p e s m args below meth c G A Q ad ao am b K) : V p lau e room_1 s m args below meth c 9 G A Q (wW ad ao am G (T, n, mo, ver) (S, h) P Tr Rg (co, len) Rd O (snp T n mo) (S, h) (co, len) Tw (i_, ft, vl, td, tn) (ke, sp) Lo Wi) (30 + K) (10000 + 6 * K) 791 (lwl ad ao am b (4 * K)) [] := by
  have hkk : K < 512 := by omega
  obtain ⟨hk1, hk2⟩ := room_k hkk
  obtain ⟨n', mo', hn', hmo', hn2, hmo2⟩ := lr_undo_n I
  refine v_aload_n F dL_law_791 1 rfl rfl ?_
  refine v_aload_n F dL_law_792 3 rfl rfl ?_
  refine v_cH F hSF hSH hNC ch_undo dL_law_793 [0, 1, 2, 3, 4, 5, 6, 7, 8, 9, 10, 11, 12, 13, 14, 15, 16, 17, 18] [19, 20, 21, 22, 23, 24, 25, 26, 27] (wc := wL ad ao G (T, n, mo, ver) (S, h) P Tr Rg (co, len) Rd O) (wr := wM am G (snp T n mo) (S, h) (co, len) Tw (i_, ft, vl, td, tn) (ke, sp) Lo Wi) rfl rfl rfl rfl rfl (by decide) (h_undo lau G ad ao T n mo ver S h P Tr Rg co len Rd O n' mo' hn' hmo' K I hst) (by decide) rfl rfl (Nat.le_of_ble_eq_true rfl) ⟨by omega, by omega⟩ (fun r u hw => ?_)
  obtain ⟨L1, H1, P1, Tr1, Rg1, X1, D1, O1⟩ := u
  refine v_pick [9, 10, 11, 12, 13, 14, 15, 16, 17, 18, 19, 20, 21, 22, 23, 24, 25, 26, 27, 0, 1, 2, 3, 4, 5, 6, 7, 8] (w' := wL ad ao G L1 H1 P1 Tr1 Rg1 X1 D1 O1 ++ wM am G (snp T n mo) (S, h) (co, len) Tw (i_, ft, vl, td, tn) (ke, sp) Lo Wi) rfl rfl rfl ?_
  obtain ⟨hr1, ⟨eP, eT, eR⟩, h0, h1⟩ := hw
  refine v_topi (nI (xUndo h)) hr1 ?_
  refine v_istore (lv' := [(5, .int (nI (xUndo h))), (4, .int (nI (4 * K))), (3, .ref ao), (2, .ref (am 0)), (1, .ref (ad 0)), (0, .ref b)]) F dL_law_796 (by decide) rfl ?_
  refine v_aload_n F dL_law_798 2 rfl rfl ?_
  refine v_cVIS F cs_RL_142 dL_law_799 19 (ci := 8) rfl rfl [19, 20, 21, 22, 23, 24, 25, 26, 27] [0, 1, 2, 3, 4, 5, 6, 7, 8, 9, 10, 11, 12, 13, 14, 15, 16, 17, 18] (wc := wM am G (snp T n mo) (S, h) (co, len) Tw (i_, ft, vl, td, tn) (ke, sp) Lo Wi) (wr := wL ad ao G L1 H1 P1 Tr1 Rg1 X1 D1 O1) rfl rfl rfl rfl rfl (by decide) (m_X8_undo lau G am T n mo S h (co, len) Tw (i_, ft, vl, td, tn) (ke, sp) Lo Wi n' mo' I.2.2.2.1 hn' hmo') (by decide) rfl rfl (Nat.le_of_ble_eq_true rfl) ⟨by omega, by omega⟩ (fun r2 u hm => ?_)
  obtain ⟨N1, H2, X2, Q1, K1, Lo1, Wi1⟩ := u
  refine v_w (w' := wW ad ao am G L1 H1 P1 Tr1 Rg1 X1 D1 O1 N1 H2 X2 (xUndo h) Q1 K1 Lo1 Wi1) rfl ?_
  refine v_istore (lv' := [(6, .int r2), (5, .int (nI (xUndo h))), (4, .int (nI (4 * K))), (3, .ref ao), (2, .ref (am 0)), (1, .ref (ad 0)), (0, .ref b)]) F dL_law_802 (by decide) rfl ?_
  refine v_aload_n F dL_law_804 2 rfl rfl ?_
  refine v_cVIS F cs_RL_98 dL_law_805 19 (ci := 8) rfl rfl [19, 20, 21, 22, 23, 24, 25, 26, 27] [0, 1, 2, 3, 4, 5, 6, 7, 8, 9, 10, 11, 12, 13, 14, 15, 16, 17, 18] (wc := wM am G N1 H2 X2 (xUndo h) Q1 K1 Lo1 Wi1) (wr := wL ad ao G L1 H1 P1 Tr1 Rg1 X1 D1 O1) rfl rfl rfl rfl rfl (by decide) (m_X8_thrown lau G am N1 H2 X2 (xUndo h) Q1 K1 Lo1 Wi1) (by decide) rfl rfl (Nat.le_of_ble_eq_true rfl) ⟨by omega, by omega⟩ (fun r3 u3 hr3 => ?_)
  refine v_topi (nI (xUndo h)) hr3 ?_
  refine v_w (w' := wW ad ao am G L1 H1 P1 Tr1 Rg1 X1 D1 O1 N1 H2 X2 (xUndo h) Q1 K1 Lo1 Wi1) rfl ?_
  refine v_iload F dL_law_808 rfl ?_
  refine v_icmp_eq F 815 dL_law_810 (by decide) (fun _ => ?_) (fun hq => absurd rfl hq)
  refine v_iload F dL_law_815 rfl ?_
  have hcb : xUndo h < 2 ^ 31 := by
    unfold xUndo
    repeat' split
    all_goals decide
  have hlr : LR (K + 1) L1 H1 P1 Tr1 Rg1 X1 D1 N1 H2 X2 := by
    have eP : P1 = P := eP
    have eT : Tr1 = Tr := eT
    have eR : Rg1 = Rg := eR
    by_cases hc : xUndo h = 0
    · obtain ⟨-, eL, eH, eX, eD⟩ := h0 hc
      obtain ⟨-, eN, eH2, eX2⟩ := hm.1 hc
      have eD : D1 = Rd := eD
      exact ⟨_, _, _, _, _, _, _, _, eL, eH, eX, eN, eH2, eX2, by rw [eP, eT, eR, eD]; exact lr_undo I hkk hc hn' hmo' hn2 hmo2⟩
    · obtain ⟨eL, eH, eX, eD⟩ := h1 hc
      obtain ⟨eN, eH2, eX2⟩ := hm.2 hc
      have eD : D1 = Rd := eD
      exact ⟨_, _, _, _, _, _, _, _, eL, eH, eX, eN, eH2, eX2, by rw [eP, eT, eR, eD]; exact I.same hkk⟩
  refine v_if_ne F 832 dL_law_817 (by decide) (fun _ => ?_) (fun hz => ?_)
  · refine v_goto F 1714 dL_law_832 (by decide) ?_
    refine v_st (w' := wW ad ao am G L1 H1 P1 Tr1 Rg1 X1 D1 O1 N1 H2 X2 (xUndo h) Q1 K1 Lo1 Wi1) (pc' := 1714) (st' := []) rfl rfl rfl [2, 3, 4, 5, 6] (lv' := lwl ad ao am b (4 * K)) rfl ?_
    refine v_widen (k' := 30 + (K + 1)) (n' := 10000 + 6 * (K + 1)) (by omega) (by omega) ?_
    exact hnx _ _ _ _ _ _ _ _ _ _ _ _ _ _ _ _ hlr
  · have hc : xUndo h = 0 := (nI_eq hcb (by decide)).mp hz
    refine v_aload_n F dL_law_820 3 rfl rfl ?_
    refine v_iconst (v := nI 0) F dL_law_821 (by decide) ?_
    refine v_laldN F dL_law_822 18 rfl 0 rfl (by decide) (by decide) (O1 0) rfl ?_
    refine v_iload F dL_law_823 rfl ?_
    refine v_i2l F dL_law_825 ?_
    refine v_lcmp F dL_law_826 ?_
    have e1 : O1 0 = r2.toInt64 := (h0 hc).1.trans (congrArg Int32.toInt64 (hm.1 hc).1.symm)
    refine v_if_eq F 832 dL_law_827 (by decide) (fun _ => ?_) (fun hq => absurd (by rw [e1]; exact lg_self _) hq)
    refine v_goto F 1714 dL_law_832 (by decide) ?_
    refine v_st (w' := wW ad ao am G L1 H1 P1 Tr1 Rg1 X1 D1 O1 N1 H2 X2 (xUndo h) Q1 K1 Lo1 Wi1) (pc' := 1714) (st' := []) rfl rfl rfl [2, 3, 4, 5, 6] (lv' := lwl ad ao am b (4 * K)) rfl ?_
    refine v_widen (k' := 30 + (K + 1)) (n' := 10000 + 6 * (K + 1)) (by omega) (by omega) ?_
    exact hnx _ _ _ _ _ _ _ _ _ _ _ _ _ _ _ _ hlr
theorem cs_RL_145 : CSV RL 145 RX8 yX8_line cX8_line 3 (some .int) 2 := ⟨wC_yX8_line, wM_RL_145, wIm_yX8_line, wSe_yX8_line, wI_RX8, by decide +kernel, by decide⟩
set_option maxHeartbeats 1000000 in
set_option maxRecDepth 100000 in
theorem lc_13 (lau : Launch) (G : GT) {p : Program} {e : Env} {s : State} {m : MethodId} {args : Array Value} {below : List Frame} {meth : Method} {c : Code} {A : Nat → Prop} {Q : State → Prop} (F : FX p room_1 s m args c code RL 9 2000 G A) (hSF : SF s) (hSH : SH A s s.heap) (hNC : NC s) (hst : lau.stackTraces = false) {b L : Nat} {xs : Nat → Int32} (hX : va_X b L xs s s.heap) (hbl : b < s.heap.size) (hbA : ¬ A b) (hL : L ≤ 2048) (ad : Nat → Nat) (ao : Nat) (am : Nat → Nat) (T : Nat → Int32) (n mo ver : Nat) (S : Nat → Int32) (h : Nat) (P : PT) (Tr : TT) (Rg : RT) (co : Nat → Int32) (len : Nat) (Rd : DT) (O : Nat → Int64) (Tw i_ : Nat) (ft : Bool) (vl : Nat) (td : Nat → Int32) (tn : Nat) (ke sp Lo Wi : Nat → Int32) {K : Nat} (hK : 4 * K + 4 ≤ L) (I : LIV K T n mo ver S h P Tr Rg co len Rd) (hnx : NX lau p e s m args below meth c G A Q ad ao am b K) : V p lau e room_1 s m args below meth c 9 G A Q (wW ad ao am G (T, n, mo, ver) (S, h) P Tr Rg (co, len) Rd O (snp T n mo) (S, h) (co, len) Tw (i_, ft, vl, td, tn) (ke, sp) Lo Wi) (30 + K) (10000 + 6 * K) 835 (lwl ad ao am b (4 * K)) [] := by
  have hkk : K < 512 := by omega
  obtain ⟨hk1, hk2⟩ := room_k hkk
  refine v_aload_n F dL_law_835 1 rfl rfl ?_
  refine v_aload_n F dL_law_836 0 rfl rfl ?_
  refine v_iload F dL_law_837 rfl ?_
  refine v_iconst (v := nI 1) F dL_law_839 (by decide) ?_
  refine v_iadd F dL_law_840 ?_
  refine v_topi (nI (4 * K + 1)) (nI_add (4 * K) 1) ?_
  refine v_sld F hX hbl hbA (4 * K + 1) rfl (by omega) (by omega) dL_law_841 ?_
  refine v_aload_n F dL_law_842 0 rfl rfl ?_
  refine v_iload F dL_law_843 rfl ?_
  refine v_iconst (v := nI 2) F dL_law_845 (by decide) ?_
  refine v_iadd F dL_law_846 ?_
  refine v_topi (nI (4 * K + 2)) (nI_add (4 * K) 2) ?_
  refine v_sld F hX hbl hbA (4 * K + 2) rfl (by omega) (by omega) dL_law_847 ?_
  refine v_aload_n F dL_law_848 3 rfl rfl ?_
  refine v_cH F hSF hSH hNC ch_line dL_law_849 [0, 1, 2, 3, 4, 5, 6, 7, 8, 9, 10, 11, 12, 13, 14, 15, 16, 17, 18] [19, 20, 21, 22, 23, 24, 25, 26, 27] (wc := wL ad ao G (T, n, mo, ver) (S, h) P Tr Rg (co, len) Rd O) (wr := wM am G (snp T n mo) (S, h) (co, len) Tw (i_, ft, vl, td, tn) (ke, sp) Lo Wi) rfl rfl rfl rfl rfl (by decide) (h_line lau G ad ao T n mo ver S h P Tr Rg co len Rd O (xs (4 * K + 1)) (xs (4 * K + 2)) K I hst) (by decide) rfl rfl (Nat.le_of_ble_eq_true rfl) ⟨by omega, by omega⟩ (fun r u hw => ?_)
  obtain ⟨L1, H1, P1, Tr1, Rg1, X1, D1, O1⟩ := u
  refine v_pick [9, 10, 11, 12, 13, 14, 15, 16, 17, 18, 19, 20, 21, 22, 23, 24, 25, 26, 27, 0, 1, 2, 3, 4, 5, 6, 7, 8] (w' := wL ad ao G L1 H1 P1 Tr1 Rg1 X1 D1 O1 ++ wM am G (snp T n mo) (S, h) (co, len) Tw (i_, ft, vl, td, tn) (ke, sp) Lo Wi) rfl rfl rfl ?_
  obtain ⟨hr1, hci, h0, eL, eH, eX, eD⟩ := hw
  refine v_topi (nI (xLine n (xs (4 * K + 1)) (xs (4 * K + 2)))) hr1 ?_
  refine v_istore (lv' := [(5, .int (nI (xLine n (xs (4 * K + 1)) (xs (4 * K + 2))))), (4, .int (nI (4 * K))), (3, .ref ao), (2, .ref (am 0)), (1, .ref (ad 0)), (0, .ref b)]) F dL_law_852 (by decide) rfl ?_
  refine v_aload_n F dL_law_854 2 rfl rfl ?_
  refine v_aload_n F dL_law_855 0 rfl rfl ?_
  refine v_iload F dL_law_856 rfl ?_
  refine v_iconst (v := nI 1) F dL_law_858 (by decide) ?_
  refine v_iadd F dL_law_859 ?_
  refine v_topi (nI (4 * K + 1)) (nI_add (4 * K) 1) ?_
  refine v_sld F hX hbl hbA (4 * K + 1) rfl (by omega) (by omega) dL_law_860 ?_
  refine v_aload_n F dL_law_861 0 rfl rfl ?_
  refine v_iload F dL_law_862 rfl ?_
  refine v_iconst (v := nI 2) F dL_law_864 (by decide) ?_
  refine v_iadd F dL_law_865 ?_
  refine v_topi (nI (4 * K + 2)) (nI_add (4 * K) 2) ?_
  refine v_sld F hX hbl hbA (4 * K + 2) rfl (by omega) (by omega) dL_law_866 ?_
  refine v_cVIS F cs_RL_145 dL_law_867 19 (ci := 8) rfl rfl [19, 20, 21, 22, 23, 24, 25, 26, 27] [0, 1, 2, 3, 4, 5, 6, 7, 8, 9, 10, 11, 12, 13, 14, 15, 16, 17, 18] (wc := wM am G (snp T n mo) (S, h) (co, len) Tw (i_, ft, vl, td, tn) (ke, sp) Lo Wi) (wr := wL ad ao G L1 H1 P1 Tr1 Rg1 X1 D1 O1) rfl rfl rfl rfl rfl (by decide) (m_X8_line lau G am T n mo (S, h) (co, len) Tw (i_, ft, vl, td, tn) ke sp Lo Wi (xs (4 * K + 1)) (xs (4 * K + 2)) I.1 I.2.2.1) (by decide) rfl rfl (Nat.le_of_ble_eq_true rfl) ⟨by omega, by omega⟩ (fun r2 u hm => ?_)
  obtain ⟨N1, H2, X2, Q1, K1, Lo1, Wi1⟩ := u
  refine v_w (w' := wW ad ao am G L1 H1 P1 Tr1 Rg1 X1 D1 O1 N1 H2 X2 (xLine n (xs (4 * K + 1)) (xs (4 * K + 2))) Q1 K1 Lo1 Wi1) rfl ?_
  refine v_istore (lv' := [(6, .int r2), (5, .int (nI (xLine n (xs (4 * K + 1)) (xs (4 * K + 2))))), (4, .int (nI (4 * K))), (3, .ref ao), (2, .ref (am 0)), (1, .ref (ad 0)), (0, .ref b)]) F dL_law_870 (by decide) rfl ?_
  refine v_aload_n F dL_law_872 2 rfl rfl ?_
  refine v_cVIS F cs_RL_98 dL_law_873 19 (ci := 8) rfl rfl [19, 20, 21, 22, 23, 24, 25, 26, 27] [0, 1, 2, 3, 4, 5, 6, 7, 8, 9, 10, 11, 12, 13, 14, 15, 16, 17, 18] (wc := wM am G N1 H2 X2 (xLine n (xs (4 * K + 1)) (xs (4 * K + 2))) Q1 K1 Lo1 Wi1) (wr := wL ad ao G L1 H1 P1 Tr1 Rg1 X1 D1 O1) rfl rfl rfl rfl rfl (by decide) (m_X8_thrown lau G am N1 H2 X2 (xLine n (xs (4 * K + 1)) (xs (4 * K + 2))) Q1 K1 Lo1 Wi1) (by decide) rfl rfl (Nat.le_of_ble_eq_true rfl) ⟨by omega, by omega⟩ (fun r3 u3 hr3 => ?_)
  refine v_topi (nI (xLine n (xs (4 * K + 1)) (xs (4 * K + 2)))) hr3 ?_
  refine v_w (w' := wW ad ao am G L1 H1 P1 Tr1 Rg1 X1 D1 O1 N1 H2 X2 (xLine n (xs (4 * K + 1)) (xs (4 * K + 2))) Q1 K1 Lo1 Wi1) rfl ?_
  refine v_iload F dL_law_876 rfl ?_
  refine v_icmp_eq F 883 dL_law_878 (by decide) (fun _ => ?_) (fun hq => absurd rfl hq)
  refine v_iload F dL_law_883 rfl ?_
  have hcb : xLine n (xs (4 * K + 1)) (xs (4 * K + 2)) < 2 ^ 31 := by
    unfold xLine
    repeat' split
    all_goals decide
  have hlr : LR (K + 1) L1 H1 P1 Tr1 Rg1 X1 D1 N1 H2 X2 := by
    have eD : D1 = Rd := eD
    by_cases hc : xLine n (xs (4 * K + 1)) (xs (4 * K + 2)) = 0
    · obtain ⟨-, eN, eH2, eX2⟩ := hm.1 hc
      exact ⟨_, _, _, _, _, _, _, _, eL, eH, eX, eN, eH2, eX2, by rw [eD]; exact I.look hkk hci⟩
    · obtain ⟨eN, eH2, eX2⟩ := hm.2 hc
      exact ⟨_, _, _, _, _, _, _, _, eL, eH, eX, eN, eH2, eX2, by rw [eD]; exact I.look hkk hci⟩
  refine v_if_ne F 900 dL_law_885 (by decide) (fun _ => ?_) (fun hz => ?_)
  · refine v_goto F 1714 dL_law_900 (by decide) ?_
    refine v_st (w' := wW ad ao am G L1 H1 P1 Tr1 Rg1 X1 D1 O1 N1 H2 X2 (xLine n (xs (4 * K + 1)) (xs (4 * K + 2))) Q1 K1 Lo1 Wi1) (pc' := 1714) (st' := []) rfl rfl rfl [2, 3, 4, 5, 6] (lv' := lwl ad ao am b (4 * K)) rfl ?_
    refine v_widen (k' := 30 + (K + 1)) (n' := 10000 + 6 * (K + 1)) (by omega) (by omega) ?_
    exact hnx _ _ _ _ _ _ _ _ _ _ _ _ _ _ _ _ hlr
  · have hc : xLine n (xs (4 * K + 1)) (xs (4 * K + 2)) = 0 := (nI_eq hcb (by decide)).mp hz
    refine v_aload_n F dL_law_888 3 rfl rfl ?_
    refine v_iconst (v := nI 0) F dL_law_889 (by decide) ?_
    refine v_laldN F dL_law_890 18 rfl 0 rfl (by decide) (by decide) (O1 0) rfl ?_
    refine v_iload F dL_law_891 rfl ?_
    refine v_i2l F dL_law_893 ?_
    refine v_lcmp F dL_law_894 ?_
    have e1 : O1 0 = r2.toInt64 := (h0 hc).trans (congrArg Int32.toInt64 (hm.1 hc).1.symm)
    refine v_if_eq F 900 dL_law_895 (by decide) (fun _ => ?_) (fun hq => absurd (by rw [e1]; exact lg_self _) hq)
    refine v_goto F 1714 dL_law_900 (by decide) ?_
    refine v_st (w' := wW ad ao am G L1 H1 P1 Tr1 Rg1 X1 D1 O1 N1 H2 X2 (xLine n (xs (4 * K + 1)) (xs (4 * K + 2))) Q1 K1 Lo1 Wi1) (pc' := 1714) (st' := []) rfl rfl rfl [2, 3, 4, 5, 6] (lv' := lwl ad ao am b (4 * K)) rfl ?_
    refine v_widen (k' := 30 + (K + 1)) (n' := 10000 + 6 * (K + 1)) (by omega) (by omega) ?_
    exact hnx _ _ _ _ _ _ _ _ _ _ _ _ _ _ _ _ hlr
theorem cs_RL_148 : CSV RL 148 RX8 yX8_lowest cX8_lowest 3 (some .int) 2 := ⟨wC_yX8_lowest, wM_RL_148, wIm_yX8_lowest, wSe_yX8_lowest, wI_RX8, by decide +kernel, by decide⟩
set_option maxHeartbeats 1000000 in
set_option maxRecDepth 100000 in
theorem lc_14 (lau : Launch) (G : GT) {p : Program} {e : Env} {s : State} {m : MethodId} {args : Array Value} {below : List Frame} {meth : Method} {c : Code} {A : Nat → Prop} {Q : State → Prop} (F : FX p room_1 s m args c code RL 9 2000 G A) (hSF : SF s) (hSH : SH A s s.heap) (hNC : NC s) (hst : lau.stackTraces = false) {b L : Nat} {xs : Nat → Int32} (hX : va_X b L xs s s.heap) (hbl : b < s.heap.size) (hbA : ¬ A b) (hL : L ≤ 2048) (ad : Nat → Nat) (ao : Nat) (am : Nat → Nat) (T : Nat → Int32) (n mo ver : Nat) (S : Nat → Int32) (h : Nat) (P : PT) (Tr : TT) (Rg : RT) (co : Nat → Int32) (len : Nat) (Rd : DT) (O : Nat → Int64) (Tw i_ : Nat) (ft : Bool) (vl : Nat) (td : Nat → Int32) (tn : Nat) (ke sp Lo Wi : Nat → Int32) {K : Nat} (hK : 4 * K + 4 ≤ L) (I : LIV K T n mo ver S h P Tr Rg co len Rd) (hnx : NX lau p e s m args below meth c G A Q ad ao am b K) : V p lau e room_1 s m args below meth c 9 G A Q (wW ad ao am G (T, n, mo, ver) (S, h) P Tr Rg (co, len) Rd O (snp T n mo) (S, h) (co, len) Tw (i_, ft, vl, td, tn) (ke, sp) Lo Wi) (30 + K) (10000 + 6 * K) 903 (lwl ad ao am b (4 * K)) [] := by
  have hkk : K < 512 := by omega
  obtain ⟨hk1, hk2⟩ := room_k hkk
  refine v_aload_n F dL_law_903 1 rfl rfl ?_
  refine v_aload_n F dL_law_904 0 rfl rfl ?_
  refine v_iload F dL_law_905 rfl ?_
  refine v_iconst (v := nI 1) F dL_law_907 (by decide) ?_
  refine v_iadd F dL_law_908 ?_
  refine v_topi (nI (4 * K + 1)) (nI_add (4 * K) 1) ?_
  refine v_sld F hX hbl hbA (4 * K + 1) rfl (by omega) (by omega) dL_law_909 ?_
  refine v_aload_n F dL_law_910 0 rfl rfl ?_
  refine v_iload F dL_law_911 rfl ?_
  refine v_iconst (v := nI 2) F dL_law_913 (by decide) ?_
  refine v_iadd F dL_law_914 ?_
  refine v_topi (nI (4 * K + 2)) (nI_add (4 * K) 2) ?_
  refine v_sld F hX hbl hbA (4 * K + 2) rfl (by omega) (by omega) dL_law_915 ?_
  refine v_aload_n F dL_law_916 3 rfl rfl ?_
  refine v_cH F hSF hSH hNC ch_lowest dL_law_917 [0, 1, 2, 3, 4, 5, 6, 7, 8, 9, 10, 11, 12, 13, 14, 15, 16, 17, 18] [19, 20, 21, 22, 23, 24, 25, 26, 27] (wc := wL ad ao G (T, n, mo, ver) (S, h) P Tr Rg (co, len) Rd O) (wr := wM am G (snp T n mo) (S, h) (co, len) Tw (i_, ft, vl, td, tn) (ke, sp) Lo Wi) rfl rfl rfl rfl rfl (by decide) (h_lowest lau G ad ao T n mo ver S h P Tr Rg co len Rd O (xs (4 * K + 1)) (xs (4 * K + 2)) K I hst) (by decide) rfl rfl (Nat.le_of_ble_eq_true rfl) ⟨by omega, by omega⟩ (fun r u hw => ?_)
  obtain ⟨L1, H1, P1, Tr1, Rg1, X1, D1, O1⟩ := u
  refine v_pick [9, 10, 11, 12, 13, 14, 15, 16, 17, 18, 19, 20, 21, 22, 23, 24, 25, 26, 27, 0, 1, 2, 3, 4, 5, 6, 7, 8] (w' := wL ad ao G L1 H1 P1 Tr1 Rg1 X1 D1 O1 ++ wM am G (snp T n mo) (S, h) (co, len) Tw (i_, ft, vl, td, tn) (ke, sp) Lo Wi) rfl rfl rfl ?_
  obtain ⟨hr1, hci, h0, eL, eH, eX, eD⟩ := hw
  refine v_topi (nI (xLow (xs (4 * K + 1)) (xs (4 * K + 2)))) hr1 ?_
  refine v_istore (lv' := [(5, .int (nI (xLow (xs (4 * K + 1)) (xs (4 * K + 2))))), (4, .int (nI (4 * K))), (3, .ref ao), (2, .ref (am 0)), (1, .ref (ad 0)), (0, .ref b)]) F dL_law_920 (by decide) rfl ?_
  refine v_aload_n F dL_law_922 2 rfl rfl ?_
  refine v_aload_n F dL_law_923 0 rfl rfl ?_
  refine v_iload F dL_law_924 rfl ?_
  refine v_iconst (v := nI 1) F dL_law_926 (by decide) ?_
  refine v_iadd F dL_law_927 ?_
  refine v_topi (nI (4 * K + 1)) (nI_add (4 * K) 1) ?_
  refine v_sld F hX hbl hbA (4 * K + 1) rfl (by omega) (by omega) dL_law_928 ?_
  refine v_aload_n F dL_law_929 0 rfl rfl ?_
  refine v_iload F dL_law_930 rfl ?_
  refine v_iconst (v := nI 2) F dL_law_932 (by decide) ?_
  refine v_iadd F dL_law_933 ?_
  refine v_topi (nI (4 * K + 2)) (nI_add (4 * K) 2) ?_
  refine v_sld F hX hbl hbA (4 * K + 2) rfl (by omega) (by omega) dL_law_934 ?_
  refine v_cVIS F cs_RL_148 dL_law_935 19 (ci := 8) rfl rfl [19, 20, 21, 22, 23, 24, 25, 26, 27] [0, 1, 2, 3, 4, 5, 6, 7, 8, 9, 10, 11, 12, 13, 14, 15, 16, 17, 18] (wc := wM am G (snp T n mo) (S, h) (co, len) Tw (i_, ft, vl, td, tn) (ke, sp) Lo Wi) (wr := wL ad ao G L1 H1 P1 Tr1 Rg1 X1 D1 O1) rfl rfl rfl rfl rfl (by decide) (m_X8_lowest lau G am T n mo (S, h) (co, len) Tw (i_, ft, vl, td, tn) (ke, sp) Lo Wi (xs (4 * K + 1)) (xs (4 * K + 2)) I.1) (by decide) rfl rfl (Nat.le_of_ble_eq_true rfl) ⟨by omega, by omega⟩ (fun r2 u hm => ?_)
  obtain ⟨N1, H2, X2, Q1, K1, Lo1, Wi1⟩ := u
  refine v_w (w' := wW ad ao am G L1 H1 P1 Tr1 Rg1 X1 D1 O1 N1 H2 X2 (xLow (xs (4 * K + 1)) (xs (4 * K + 2))) Q1 K1 Lo1 Wi1) rfl ?_
  refine v_istore (lv' := [(6, .int r2), (5, .int (nI (xLow (xs (4 * K + 1)) (xs (4 * K + 2))))), (4, .int (nI (4 * K))), (3, .ref ao), (2, .ref (am 0)), (1, .ref (ad 0)), (0, .ref b)]) F dL_law_938 (by decide) rfl ?_
  refine v_aload_n F dL_law_940 2 rfl rfl ?_
  refine v_cVIS F cs_RL_98 dL_law_941 19 (ci := 8) rfl rfl [19, 20, 21, 22, 23, 24, 25, 26, 27] [0, 1, 2, 3, 4, 5, 6, 7, 8, 9, 10, 11, 12, 13, 14, 15, 16, 17, 18] (wc := wM am G N1 H2 X2 (xLow (xs (4 * K + 1)) (xs (4 * K + 2))) Q1 K1 Lo1 Wi1) (wr := wL ad ao G L1 H1 P1 Tr1 Rg1 X1 D1 O1) rfl rfl rfl rfl rfl (by decide) (m_X8_thrown lau G am N1 H2 X2 (xLow (xs (4 * K + 1)) (xs (4 * K + 2))) Q1 K1 Lo1 Wi1) (by decide) rfl rfl (Nat.le_of_ble_eq_true rfl) ⟨by omega, by omega⟩ (fun r3 u3 hr3 => ?_)
  refine v_topi (nI (xLow (xs (4 * K + 1)) (xs (4 * K + 2)))) hr3 ?_
  refine v_w (w' := wW ad ao am G L1 H1 P1 Tr1 Rg1 X1 D1 O1 N1 H2 X2 (xLow (xs (4 * K + 1)) (xs (4 * K + 2))) Q1 K1 Lo1 Wi1) rfl ?_
  refine v_iload F dL_law_944 rfl ?_
  refine v_icmp_eq F 951 dL_law_946 (by decide) (fun _ => ?_) (fun hq => absurd rfl hq)
  refine v_iload F dL_law_951 rfl ?_
  have hcb : xLow (xs (4 * K + 1)) (xs (4 * K + 2)) < 2 ^ 31 := by
    unfold xLow
    repeat' split
    all_goals decide
  have hlr : LR (K + 1) L1 H1 P1 Tr1 Rg1 X1 D1 N1 H2 X2 := by
    have eD : D1 = Rd := eD
    by_cases hc : xLow (xs (4 * K + 1)) (xs (4 * K + 2)) = 0
    · obtain ⟨-, eN, eH2, eX2⟩ := hm.1 hc
      exact ⟨_, _, _, _, _, _, _, _, eL, eH, eX, eN, eH2, eX2, by rw [eD]; exact I.look hkk hci⟩
    · obtain ⟨eN, eH2, eX2⟩ := hm.2 hc
      exact ⟨_, _, _, _, _, _, _, _, eL, eH, eX, eN, eH2, eX2, by rw [eD]; exact I.look hkk hci⟩
  refine v_if_ne F 968 dL_law_953 (by decide) (fun _ => ?_) (fun hz => ?_)
  · refine v_goto F 1714 dL_law_968 (by decide) ?_
    refine v_st (w' := wW ad ao am G L1 H1 P1 Tr1 Rg1 X1 D1 O1 N1 H2 X2 (xLow (xs (4 * K + 1)) (xs (4 * K + 2))) Q1 K1 Lo1 Wi1) (pc' := 1714) (st' := []) rfl rfl rfl [2, 3, 4, 5, 6] (lv' := lwl ad ao am b (4 * K)) rfl ?_
    refine v_widen (k' := 30 + (K + 1)) (n' := 10000 + 6 * (K + 1)) (by omega) (by omega) ?_
    exact hnx _ _ _ _ _ _ _ _ _ _ _ _ _ _ _ _ hlr
  · have hc : xLow (xs (4 * K + 1)) (xs (4 * K + 2)) = 0 := (nI_eq hcb (by decide)).mp hz
    refine v_aload_n F dL_law_956 3 rfl rfl ?_
    refine v_iconst (v := nI 0) F dL_law_957 (by decide) ?_
    refine v_laldN F dL_law_958 18 rfl 0 rfl (by decide) (by decide) (O1 0) rfl ?_
    refine v_iload F dL_law_959 rfl ?_
    refine v_i2l F dL_law_961 ?_
    refine v_lcmp F dL_law_962 ?_
    have e1 : O1 0 = r2.toInt64 := (h0 hc).trans (congrArg Int32.toInt64 (hm.1 hc).1.symm)
    refine v_if_eq F 968 dL_law_963 (by decide) (fun _ => ?_) (fun hq => absurd (by rw [e1]; exact lg_self _) hq)
    refine v_goto F 1714 dL_law_968 (by decide) ?_
    refine v_st (w' := wW ad ao am G L1 H1 P1 Tr1 Rg1 X1 D1 O1 N1 H2 X2 (xLow (xs (4 * K + 1)) (xs (4 * K + 2))) Q1 K1 Lo1 Wi1) (pc' := 1714) (st' := []) rfl rfl rfl [2, 3, 4, 5, 6] (lv' := lwl ad ao am b (4 * K)) rfl ?_
    refine v_widen (k' := 30 + (K + 1)) (n' := 10000 + 6 * (K + 1)) (by omega) (by omega) ?_
    exact hnx _ _ _ _ _ _ _ _ _ _ _ _ _ _ _ _ hlr
theorem cs_RL_151 : CSV RL 151 RX8 yX8_value cX8_value 3 (some .int) 1 := ⟨wC_yX8_value, wM_RL_151, wIm_yX8_value, wSe_yX8_value, wI_RX8, by decide +kernel, by decide⟩
set_option maxHeartbeats 1000000 in
set_option maxRecDepth 100000 in
theorem lc_15 (lau : Launch) (G : GT) {p : Program} {e : Env} {s : State} {m : MethodId} {args : Array Value} {below : List Frame} {meth : Method} {c : Code} {A : Nat → Prop} {Q : State → Prop} (F : FX p room_1 s m args c code RL 9 2000 G A) (hSF : SF s) (hSH : SH A s s.heap) (hNC : NC s) (hst : lau.stackTraces = false) {b L : Nat} {xs : Nat → Int32} (hX : va_X b L xs s s.heap) (hbl : b < s.heap.size) (hbA : ¬ A b) (hL : L ≤ 2048) (ad : Nat → Nat) (ao : Nat) (am : Nat → Nat) (T : Nat → Int32) (n mo ver : Nat) (S : Nat → Int32) (h : Nat) (P : PT) (Tr : TT) (Rg : RT) (co : Nat → Int32) (len : Nat) (Rd : DT) (O : Nat → Int64) (Tw i_ : Nat) (ft : Bool) (vl : Nat) (td : Nat → Int32) (tn : Nat) (ke sp Lo Wi : Nat → Int32) {K : Nat} (hK : 4 * K + 4 ≤ L) (I : LIV K T n mo ver S h P Tr Rg co len Rd) (hnx : NX lau p e s m args below meth c G A Q ad ao am b K) : V p lau e room_1 s m args below meth c 9 G A Q (wW ad ao am G (T, n, mo, ver) (S, h) P Tr Rg (co, len) Rd O (snp T n mo) (S, h) (co, len) Tw (i_, ft, vl, td, tn) (ke, sp) Lo Wi) (30 + K) (10000 + 6 * K) 971 (lwl ad ao am b (4 * K)) [] := by
  have hkk : K < 512 := by omega
  obtain ⟨hk1, hk2⟩ := room_k hkk
  refine v_aload_n F dL_law_971 1 rfl rfl ?_
  refine v_aload_n F dL_law_972 0 rfl rfl ?_
  refine v_iload F dL_law_973 rfl ?_
  refine v_iconst (v := nI 1) F dL_law_975 (by decide) ?_
  refine v_iadd F dL_law_976 ?_
  refine v_topi (nI (4 * K + 1)) (nI_add (4 * K) 1) ?_
  refine v_sld F hX hbl hbA (4 * K + 1) rfl (by omega) (by omega) dL_law_977 ?_
  refine v_aload_n F dL_law_978 3 rfl rfl ?_
  refine v_cH F hSF hSH hNC ch_value dL_law_979 [0, 1, 2, 3, 4, 5, 6, 7, 8, 9, 10, 11, 12, 13, 14, 15, 16, 17, 18] [19, 20, 21, 22, 23, 24, 25, 26, 27] (wc := wL ad ao G (T, n, mo, ver) (S, h) P Tr Rg (co, len) Rd O) (wr := wM am G (snp T n mo) (S, h) (co, len) Tw (i_, ft, vl, td, tn) (ke, sp) Lo Wi) rfl rfl rfl rfl rfl (by decide) (h_value lau G ad ao T n mo ver S h P Tr Rg co len Rd O (xs (4 * K + 1)) K I hst) (by decide) rfl rfl (Nat.le_of_ble_eq_true rfl) ⟨by omega, by omega⟩ (fun r u hw => ?_)
  obtain ⟨L1, H1, P1, Tr1, Rg1, X1, D1, O1⟩ := u
  refine v_pick [9, 10, 11, 12, 13, 14, 15, 16, 17, 18, 19, 20, 21, 22, 23, 24, 25, 26, 27, 0, 1, 2, 3, 4, 5, 6, 7, 8] (w' := wL ad ao G L1 H1 P1 Tr1 Rg1 X1 D1 O1 ++ wM am G (snp T n mo) (S, h) (co, len) Tw (i_, ft, vl, td, tn) (ke, sp) Lo Wi) rfl rfl rfl ?_
  obtain ⟨hr1, hci, h0, eL, eH, eX, eD⟩ := hw
  refine v_topi (nI (xVal T n mo (xs (4 * K + 1)))) hr1 ?_
  refine v_istore (lv' := [(5, .int (nI (xVal T n mo (xs (4 * K + 1))))), (4, .int (nI (4 * K))), (3, .ref ao), (2, .ref (am 0)), (1, .ref (ad 0)), (0, .ref b)]) F dL_law_982 (by decide) rfl ?_
  refine v_aload_n F dL_law_984 2 rfl rfl ?_
  refine v_aload_n F dL_law_985 0 rfl rfl ?_
  refine v_iload F dL_law_986 rfl ?_
  refine v_iconst (v := nI 1) F dL_law_988 (by decide) ?_
  refine v_iadd F dL_law_989 ?_
  refine v_topi (nI (4 * K + 1)) (nI_add (4 * K) 1) ?_
  refine v_sld F hX hbl hbA (4 * K + 1) rfl (by omega) (by omega) dL_law_990 ?_
  refine v_cVIS F cs_RL_151 dL_law_991 19 (ci := 8) rfl rfl [19, 20, 21, 22, 23, 24, 25, 26, 27] [0, 1, 2, 3, 4, 5, 6, 7, 8, 9, 10, 11, 12, 13, 14, 15, 16, 17, 18] (wc := wM am G (snp T n mo) (S, h) (co, len) Tw (i_, ft, vl, td, tn) (ke, sp) Lo Wi) (wr := wL ad ao G L1 H1 P1 Tr1 Rg1 X1 D1 O1) rfl rfl rfl rfl rfl (by decide) (m_X8_value lau G am T n mo (S, h) (co, len) Tw (i_, ft, vl, td, tn) (ke, sp) Lo Wi (xs (4 * K + 1)) I.1) (by decide) rfl rfl (Nat.le_of_ble_eq_true rfl) ⟨by omega, by omega⟩ (fun r2 u hm => ?_)
  obtain ⟨N1, H2, X2, Q1, K1, Lo1, Wi1⟩ := u
  refine v_w (w' := wW ad ao am G L1 H1 P1 Tr1 Rg1 X1 D1 O1 N1 H2 X2 (xVal T n mo (xs (4 * K + 1))) Q1 K1 Lo1 Wi1) rfl ?_
  refine v_istore (lv' := [(6, .int r2), (5, .int (nI (xVal T n mo (xs (4 * K + 1))))), (4, .int (nI (4 * K))), (3, .ref ao), (2, .ref (am 0)), (1, .ref (ad 0)), (0, .ref b)]) F dL_law_994 (by decide) rfl ?_
  refine v_aload_n F dL_law_996 2 rfl rfl ?_
  refine v_cVIS F cs_RL_98 dL_law_997 19 (ci := 8) rfl rfl [19, 20, 21, 22, 23, 24, 25, 26, 27] [0, 1, 2, 3, 4, 5, 6, 7, 8, 9, 10, 11, 12, 13, 14, 15, 16, 17, 18] (wc := wM am G N1 H2 X2 (xVal T n mo (xs (4 * K + 1))) Q1 K1 Lo1 Wi1) (wr := wL ad ao G L1 H1 P1 Tr1 Rg1 X1 D1 O1) rfl rfl rfl rfl rfl (by decide) (m_X8_thrown lau G am N1 H2 X2 (xVal T n mo (xs (4 * K + 1))) Q1 K1 Lo1 Wi1) (by decide) rfl rfl (Nat.le_of_ble_eq_true rfl) ⟨by omega, by omega⟩ (fun r3 u3 hr3 => ?_)
  refine v_topi (nI (xVal T n mo (xs (4 * K + 1)))) hr3 ?_
  refine v_w (w' := wW ad ao am G L1 H1 P1 Tr1 Rg1 X1 D1 O1 N1 H2 X2 (xVal T n mo (xs (4 * K + 1))) Q1 K1 Lo1 Wi1) rfl ?_
  refine v_iload F dL_law_1000 rfl ?_
  refine v_icmp_eq F 1007 dL_law_1002 (by decide) (fun _ => ?_) (fun hq => absurd rfl hq)
  refine v_iload F dL_law_1007 rfl ?_
  have hcb : xVal T n mo (xs (4 * K + 1)) < 2 ^ 31 := by
    unfold xVal
    repeat' split
    all_goals decide
  have hlr : LR (K + 1) L1 H1 P1 Tr1 Rg1 X1 D1 N1 H2 X2 := by
    have eD : D1 = Rd := eD
    by_cases hc : xVal T n mo (xs (4 * K + 1)) = 0
    · obtain ⟨-, eN, eH2, eX2⟩ := hm.1 hc
      exact ⟨_, _, _, _, _, _, _, _, eL, eH, eX, eN, eH2, eX2, by rw [eD]; exact I.look hkk hci⟩
    · obtain ⟨eN, eH2, eX2⟩ := hm.2 hc
      exact ⟨_, _, _, _, _, _, _, _, eL, eH, eX, eN, eH2, eX2, by rw [eD]; exact I.look hkk hci⟩
  refine v_if_ne F 1024 dL_law_1009 (by decide) (fun _ => ?_) (fun hz => ?_)
  · refine v_goto F 1714 dL_law_1024 (by decide) ?_
    refine v_st (w' := wW ad ao am G L1 H1 P1 Tr1 Rg1 X1 D1 O1 N1 H2 X2 (xVal T n mo (xs (4 * K + 1))) Q1 K1 Lo1 Wi1) (pc' := 1714) (st' := []) rfl rfl rfl [2, 3, 4, 5, 6] (lv' := lwl ad ao am b (4 * K)) rfl ?_
    refine v_widen (k' := 30 + (K + 1)) (n' := 10000 + 6 * (K + 1)) (by omega) (by omega) ?_
    exact hnx _ _ _ _ _ _ _ _ _ _ _ _ _ _ _ _ hlr
  · have hc : xVal T n mo (xs (4 * K + 1)) = 0 := (nI_eq hcb (by decide)).mp hz
    refine v_aload_n F dL_law_1012 3 rfl rfl ?_
    refine v_iconst (v := nI 0) F dL_law_1013 (by decide) ?_
    refine v_laldN F dL_law_1014 18 rfl 0 rfl (by decide) (by decide) (O1 0) rfl ?_
    refine v_iload F dL_law_1015 rfl ?_
    refine v_i2l F dL_law_1017 ?_
    refine v_lcmp F dL_law_1018 ?_
    have e1 : O1 0 = r2.toInt64 := (h0 hc).trans (congrArg Int32.toInt64 (hm.1 hc).1.symm)
    refine v_if_eq F 1024 dL_law_1019 (by decide) (fun _ => ?_) (fun hq => absurd (by rw [e1]; exact lg_self _) hq)
    refine v_goto F 1714 dL_law_1024 (by decide) ?_
    refine v_st (w' := wW ad ao am G L1 H1 P1 Tr1 Rg1 X1 D1 O1 N1 H2 X2 (xVal T n mo (xs (4 * K + 1))) Q1 K1 Lo1 Wi1) (pc' := 1714) (st' := []) rfl rfl rfl [2, 3, 4, 5, 6] (lv' := lwl ad ao am b (4 * K)) rfl ?_
    refine v_widen (k' := 30 + (K + 1)) (n' := 10000 + 6 * (K + 1)) (by omega) (by omega) ?_
    exact hnx _ _ _ _ _ _ _ _ _ _ _ _ _ _ _ _ hlr
theorem cs_RL_154 : CSV RL 154 RX8 yX8_ranked cX8_ranked 3 (some .int) 2 := ⟨wC_yX8_ranked, wM_RL_154, wIm_yX8_ranked, wSe_yX8_ranked, wI_RX8, by decide +kernel, by decide⟩
set_option maxHeartbeats 1000000 in
set_option maxRecDepth 100000 in
theorem lc_16 (lau : Launch) (G : GT) {p : Program} {e : Env} {s : State} {m : MethodId} {args : Array Value} {below : List Frame} {meth : Method} {c : Code} {A : Nat → Prop} {Q : State → Prop} (F : FX p room_1 s m args c code RL 9 2000 G A) (hSF : SF s) (hSH : SH A s s.heap) (hNC : NC s) (hst : lau.stackTraces = false) {b L : Nat} {xs : Nat → Int32} (hX : va_X b L xs s s.heap) (hbl : b < s.heap.size) (hbA : ¬ A b) (hL : L ≤ 2048) (ad : Nat → Nat) (ao : Nat) (am : Nat → Nat) (T : Nat → Int32) (n mo ver : Nat) (S : Nat → Int32) (h : Nat) (P : PT) (Tr : TT) (Rg : RT) (co : Nat → Int32) (len : Nat) (Rd : DT) (O : Nat → Int64) (Tw i_ : Nat) (ft : Bool) (vl : Nat) (td : Nat → Int32) (tn : Nat) (ke sp Lo Wi : Nat → Int32) {K : Nat} (hK : 4 * K + 4 ≤ L) (I : LIV K T n mo ver S h P Tr Rg co len Rd) (hnx : NX lau p e s m args below meth c G A Q ad ao am b K) : V p lau e room_1 s m args below meth c 9 G A Q (wW ad ao am G (T, n, mo, ver) (S, h) P Tr Rg (co, len) Rd O (snp T n mo) (S, h) (co, len) Tw (i_, ft, vl, td, tn) (ke, sp) Lo Wi) (30 + K) (10000 + 6 * K) 1027 (lwl ad ao am b (4 * K)) [] := by
  have hkk : K < 512 := by omega
  obtain ⟨hk1, hk2⟩ := room_k hkk
  refine v_aload_n F dL_law_1027 1 rfl rfl ?_
  refine v_aload_n F dL_law_1028 0 rfl rfl ?_
  refine v_iload F dL_law_1029 rfl ?_
  refine v_iconst (v := nI 1) F dL_law_1031 (by decide) ?_
  refine v_iadd F dL_law_1032 ?_
  refine v_topi (nI (4 * K + 1)) (nI_add (4 * K) 1) ?_
  refine v_sld F hX hbl hbA (4 * K + 1) rfl (by omega) (by omega) dL_law_1033 ?_
  refine v_aload_n F dL_law_1034 0 rfl rfl ?_
  refine v_iload F dL_law_1035 rfl ?_
  refine v_iconst (v := nI 2) F dL_law_1037 (by decide) ?_
  refine v_iadd F dL_law_1038 ?_
  refine v_topi (nI (4 * K + 2)) (nI_add (4 * K) 2) ?_
  refine v_sld F hX hbl hbA (4 * K + 2) rfl (by omega) (by omega) dL_law_1039 ?_
  refine v_aload_n F dL_law_1040 3 rfl rfl ?_
  refine v_cH F hSF hSH hNC ch_ranked dL_law_1041 [0, 1, 2, 3, 4, 5, 6, 7, 8, 9, 10, 11, 12, 13, 14, 15, 16, 17, 18] [19, 20, 21, 22, 23, 24, 25, 26, 27] (wc := wL ad ao G (T, n, mo, ver) (S, h) P Tr Rg (co, len) Rd O) (wr := wM am G (snp T n mo) (S, h) (co, len) Tw (i_, ft, vl, td, tn) (ke, sp) Lo Wi) rfl rfl rfl rfl rfl (by decide) (h_ranked lau G ad ao T n mo ver S h P Tr Rg co len Rd O (xs (4 * K + 1)) (xs (4 * K + 2)) K I hst) (by decide) rfl rfl (Nat.le_of_ble_eq_true rfl) ⟨by omega, by omega⟩ (fun r u hw => ?_)
  obtain ⟨L1, H1, P1, Tr1, Rg1, X1, D1, O1⟩ := u
  refine v_pick [9, 10, 11, 12, 13, 14, 15, 16, 17, 18, 19, 20, 21, 22, 23, 24, 25, 26, 27, 0, 1, 2, 3, 4, 5, 6, 7, 8] (w' := wL ad ao G L1 H1 P1 Tr1 Rg1 X1 D1 O1 ++ wM am G (snp T n mo) (S, h) (co, len) Tw (i_, ft, vl, td, tn) (ke, sp) Lo Wi) rfl rfl rfl ?_
  obtain ⟨hr1, hci, h0, eL, eH, eX, eD⟩ := hw
  refine v_topi (nI (xRkd (xs (4 * K + 1)) (xs (4 * K + 2)))) hr1 ?_
  refine v_istore (lv' := [(5, .int (nI (xRkd (xs (4 * K + 1)) (xs (4 * K + 2))))), (4, .int (nI (4 * K))), (3, .ref ao), (2, .ref (am 0)), (1, .ref (ad 0)), (0, .ref b)]) F dL_law_1044 (by decide) rfl ?_
  refine v_aload_n F dL_law_1046 2 rfl rfl ?_
  refine v_aload_n F dL_law_1047 0 rfl rfl ?_
  refine v_iload F dL_law_1048 rfl ?_
  refine v_iconst (v := nI 1) F dL_law_1050 (by decide) ?_
  refine v_iadd F dL_law_1051 ?_
  refine v_topi (nI (4 * K + 1)) (nI_add (4 * K) 1) ?_
  refine v_sld F hX hbl hbA (4 * K + 1) rfl (by omega) (by omega) dL_law_1052 ?_
  refine v_aload_n F dL_law_1053 0 rfl rfl ?_
  refine v_iload F dL_law_1054 rfl ?_
  refine v_iconst (v := nI 2) F dL_law_1056 (by decide) ?_
  refine v_iadd F dL_law_1057 ?_
  refine v_topi (nI (4 * K + 2)) (nI_add (4 * K) 2) ?_
  refine v_sld F hX hbl hbA (4 * K + 2) rfl (by omega) (by omega) dL_law_1058 ?_
  refine v_cVIS F cs_RL_154 dL_law_1059 19 (ci := 8) rfl rfl [19, 20, 21, 22, 23, 24, 25, 26, 27] [0, 1, 2, 3, 4, 5, 6, 7, 8, 9, 10, 11, 12, 13, 14, 15, 16, 17, 18] (wc := wM am G (snp T n mo) (S, h) (co, len) Tw (i_, ft, vl, td, tn) (ke, sp) Lo Wi) (wr := wL ad ao G L1 H1 P1 Tr1 Rg1 X1 D1 O1) rfl rfl rfl rfl rfl (by decide) (m_X8_ranked lau G am T n mo (S, h) (co, len) Tw (i_, ft, vl, td, tn) (ke, sp) Lo Wi (xs (4 * K + 1)) (xs (4 * K + 2)) I.1) (by decide) rfl rfl (Nat.le_of_ble_eq_true rfl) ⟨by omega, by omega⟩ (fun r2 u hm => ?_)
  obtain ⟨N1, H2, X2, Q1, K1, Lo1, Wi1⟩ := u
  refine v_w (w' := wW ad ao am G L1 H1 P1 Tr1 Rg1 X1 D1 O1 N1 H2 X2 (xRkd (xs (4 * K + 1)) (xs (4 * K + 2))) Q1 K1 Lo1 Wi1) rfl ?_
  refine v_istore (lv' := [(6, .int r2), (5, .int (nI (xRkd (xs (4 * K + 1)) (xs (4 * K + 2))))), (4, .int (nI (4 * K))), (3, .ref ao), (2, .ref (am 0)), (1, .ref (ad 0)), (0, .ref b)]) F dL_law_1062 (by decide) rfl ?_
  refine v_aload_n F dL_law_1064 2 rfl rfl ?_
  refine v_cVIS F cs_RL_98 dL_law_1065 19 (ci := 8) rfl rfl [19, 20, 21, 22, 23, 24, 25, 26, 27] [0, 1, 2, 3, 4, 5, 6, 7, 8, 9, 10, 11, 12, 13, 14, 15, 16, 17, 18] (wc := wM am G N1 H2 X2 (xRkd (xs (4 * K + 1)) (xs (4 * K + 2))) Q1 K1 Lo1 Wi1) (wr := wL ad ao G L1 H1 P1 Tr1 Rg1 X1 D1 O1) rfl rfl rfl rfl rfl (by decide) (m_X8_thrown lau G am N1 H2 X2 (xRkd (xs (4 * K + 1)) (xs (4 * K + 2))) Q1 K1 Lo1 Wi1) (by decide) rfl rfl (Nat.le_of_ble_eq_true rfl) ⟨by omega, by omega⟩ (fun r3 u3 hr3 => ?_)
  refine v_topi (nI (xRkd (xs (4 * K + 1)) (xs (4 * K + 2)))) hr3 ?_
  refine v_w (w' := wW ad ao am G L1 H1 P1 Tr1 Rg1 X1 D1 O1 N1 H2 X2 (xRkd (xs (4 * K + 1)) (xs (4 * K + 2))) Q1 K1 Lo1 Wi1) rfl ?_
  refine v_iload F dL_law_1068 rfl ?_
  refine v_icmp_eq F 1075 dL_law_1070 (by decide) (fun _ => ?_) (fun hq => absurd rfl hq)
  refine v_iload F dL_law_1075 rfl ?_
  have hcb : xRkd (xs (4 * K + 1)) (xs (4 * K + 2)) < 2 ^ 31 := by
    unfold xRkd
    repeat' split
    all_goals decide
  have hlr : LR (K + 1) L1 H1 P1 Tr1 Rg1 X1 D1 N1 H2 X2 := by
    have eD : D1 = Rd := eD
    by_cases hc : xRkd (xs (4 * K + 1)) (xs (4 * K + 2)) = 0
    · obtain ⟨-, eN, eH2, eX2⟩ := hm.1 hc
      exact ⟨_, _, _, _, _, _, _, _, eL, eH, eX, eN, eH2, eX2, by rw [eD]; exact I.look hkk hci⟩
    · obtain ⟨eN, eH2, eX2⟩ := hm.2 hc
      exact ⟨_, _, _, _, _, _, _, _, eL, eH, eX, eN, eH2, eX2, by rw [eD]; exact I.look hkk hci⟩
  refine v_if_ne F 1092 dL_law_1077 (by decide) (fun _ => ?_) (fun hz => ?_)
  · refine v_goto F 1714 dL_law_1092 (by decide) ?_
    refine v_st (w' := wW ad ao am G L1 H1 P1 Tr1 Rg1 X1 D1 O1 N1 H2 X2 (xRkd (xs (4 * K + 1)) (xs (4 * K + 2))) Q1 K1 Lo1 Wi1) (pc' := 1714) (st' := []) rfl rfl rfl [2, 3, 4, 5, 6] (lv' := lwl ad ao am b (4 * K)) rfl ?_
    refine v_widen (k' := 30 + (K + 1)) (n' := 10000 + 6 * (K + 1)) (by omega) (by omega) ?_
    exact hnx _ _ _ _ _ _ _ _ _ _ _ _ _ _ _ _ hlr
  · have hc : xRkd (xs (4 * K + 1)) (xs (4 * K + 2)) = 0 := (nI_eq hcb (by decide)).mp hz
    refine v_aload_n F dL_law_1080 3 rfl rfl ?_
    refine v_iconst (v := nI 0) F dL_law_1081 (by decide) ?_
    refine v_laldN F dL_law_1082 18 rfl 0 rfl (by decide) (by decide) (O1 0) rfl ?_
    refine v_iload F dL_law_1083 rfl ?_
    refine v_i2l F dL_law_1085 ?_
    refine v_lcmp F dL_law_1086 ?_
    have e1 : O1 0 = r2.toInt64 := (h0 hc).trans (congrArg Int32.toInt64 (hm.1 hc).1.symm)
    refine v_if_eq F 1092 dL_law_1087 (by decide) (fun _ => ?_) (fun hq => absurd (by rw [e1]; exact lg_self _) hq)
    refine v_goto F 1714 dL_law_1092 (by decide) ?_
    refine v_st (w' := wW ad ao am G L1 H1 P1 Tr1 Rg1 X1 D1 O1 N1 H2 X2 (xRkd (xs (4 * K + 1)) (xs (4 * K + 2))) Q1 K1 Lo1 Wi1) (pc' := 1714) (st' := []) rfl rfl rfl [2, 3, 4, 5, 6] (lv' := lwl ad ao am b (4 * K)) rfl ?_
    refine v_widen (k' := 30 + (K + 1)) (n' := 10000 + 6 * (K + 1)) (by omega) (by omega) ?_
    exact hnx _ _ _ _ _ _ _ _ _ _ _ _ _ _ _ _ hlr
theorem cs_RL_157 : CSV RL 157 RX8 yX8_node cX8_node 3 (some .int) 2 := ⟨wC_yX8_node, wM_RL_157, wIm_yX8_node, wSe_yX8_node, wI_RX8, by decide +kernel, by decide⟩
set_option maxHeartbeats 1000000 in
set_option maxRecDepth 100000 in
theorem lc_17 (lau : Launch) (G : GT) {p : Program} {e : Env} {s : State} {m : MethodId} {args : Array Value} {below : List Frame} {meth : Method} {c : Code} {A : Nat → Prop} {Q : State → Prop} (F : FX p room_1 s m args c code RL 9 2000 G A) (hSF : SF s) (hSH : SH A s s.heap) (hNC : NC s) (hst : lau.stackTraces = false) {b L : Nat} {xs : Nat → Int32} (hX : va_X b L xs s s.heap) (hbl : b < s.heap.size) (hbA : ¬ A b) (hL : L ≤ 2048) (ad : Nat → Nat) (ao : Nat) (am : Nat → Nat) (T : Nat → Int32) (n mo ver : Nat) (S : Nat → Int32) (h : Nat) (P : PT) (Tr : TT) (Rg : RT) (co : Nat → Int32) (len : Nat) (Rd : DT) (O : Nat → Int64) (Tw i_ : Nat) (ft : Bool) (vl : Nat) (td : Nat → Int32) (tn : Nat) (ke sp Lo Wi : Nat → Int32) {K : Nat} (hK : 4 * K + 4 ≤ L) (I : LIV K T n mo ver S h P Tr Rg co len Rd) (hnx : NX lau p e s m args below meth c G A Q ad ao am b K) : V p lau e room_1 s m args below meth c 9 G A Q (wW ad ao am G (T, n, mo, ver) (S, h) P Tr Rg (co, len) Rd O (snp T n mo) (S, h) (co, len) Tw (i_, ft, vl, td, tn) (ke, sp) Lo Wi) (30 + K) (10000 + 6 * K) 1095 (lwl ad ao am b (4 * K)) [] := by
  have hkk : K < 512 := by omega
  obtain ⟨hk1, hk2⟩ := room_k hkk
  refine v_aload_n F dL_law_1095 1 rfl rfl ?_
  refine v_aload_n F dL_law_1096 0 rfl rfl ?_
  refine v_iload F dL_law_1097 rfl ?_
  refine v_iconst (v := nI 1) F dL_law_1099 (by decide) ?_
  refine v_iadd F dL_law_1100 ?_
  refine v_topi (nI (4 * K + 1)) (nI_add (4 * K) 1) ?_
  refine v_sld F hX hbl hbA (4 * K + 1) rfl (by omega) (by omega) dL_law_1101 ?_
  refine v_aload_n F dL_law_1102 0 rfl rfl ?_
  refine v_iload F dL_law_1103 rfl ?_
  refine v_iconst (v := nI 2) F dL_law_1105 (by decide) ?_
  refine v_iadd F dL_law_1106 ?_
  refine v_topi (nI (4 * K + 2)) (nI_add (4 * K) 2) ?_
  refine v_sld F hX hbl hbA (4 * K + 2) rfl (by omega) (by omega) dL_law_1107 ?_
  refine v_aload_n F dL_law_1108 3 rfl rfl ?_
  refine v_cH F hSF hSH hNC ch_node dL_law_1109 [0, 1, 2, 3, 4, 5, 6, 7, 8, 9, 10, 11, 12, 13, 14, 15, 16, 17, 18] [19, 20, 21, 22, 23, 24, 25, 26, 27] (wc := wL ad ao G (T, n, mo, ver) (S, h) P Tr Rg (co, len) Rd O) (wr := wM am G (snp T n mo) (S, h) (co, len) Tw (i_, ft, vl, td, tn) (ke, sp) Lo Wi) rfl rfl rfl rfl rfl (by decide) (h_node lau G ad ao T n mo ver S h P Tr Rg co len Rd O (xs (4 * K + 1)) (xs (4 * K + 2)) K I hst) (by decide) rfl rfl (Nat.le_of_ble_eq_true rfl) ⟨by omega, by omega⟩ (fun r u hw => ?_)
  obtain ⟨L1, H1, P1, Tr1, Rg1, X1, D1, O1⟩ := u
  refine v_pick [9, 10, 11, 12, 13, 14, 15, 16, 17, 18, 19, 20, 21, 22, 23, 24, 25, 26, 27, 0, 1, 2, 3, 4, 5, 6, 7, 8] (w' := wL ad ao G L1 H1 P1 Tr1 Rg1 X1 D1 O1 ++ wM am G (snp T n mo) (S, h) (co, len) Tw (i_, ft, vl, td, tn) (ke, sp) Lo Wi) rfl rfl rfl ?_
  obtain ⟨hr1, hci, h0, eL, eH, eX, eD⟩ := hw
  refine v_topi (nI (xNode (xs (4 * K + 1)) (xs (4 * K + 2)))) hr1 ?_
  refine v_istore (lv' := [(5, .int (nI (xNode (xs (4 * K + 1)) (xs (4 * K + 2))))), (4, .int (nI (4 * K))), (3, .ref ao), (2, .ref (am 0)), (1, .ref (ad 0)), (0, .ref b)]) F dL_law_1112 (by decide) rfl ?_
  refine v_aload_n F dL_law_1114 2 rfl rfl ?_
  refine v_aload_n F dL_law_1115 0 rfl rfl ?_
  refine v_iload F dL_law_1116 rfl ?_
  refine v_iconst (v := nI 1) F dL_law_1118 (by decide) ?_
  refine v_iadd F dL_law_1119 ?_
  refine v_topi (nI (4 * K + 1)) (nI_add (4 * K) 1) ?_
  refine v_sld F hX hbl hbA (4 * K + 1) rfl (by omega) (by omega) dL_law_1120 ?_
  refine v_aload_n F dL_law_1121 0 rfl rfl ?_
  refine v_iload F dL_law_1122 rfl ?_
  refine v_iconst (v := nI 2) F dL_law_1124 (by decide) ?_
  refine v_iadd F dL_law_1125 ?_
  refine v_topi (nI (4 * K + 2)) (nI_add (4 * K) 2) ?_
  refine v_sld F hX hbl hbA (4 * K + 2) rfl (by omega) (by omega) dL_law_1126 ?_
  refine v_cVIS F cs_RL_157 dL_law_1127 19 (ci := 8) rfl rfl [19, 20, 21, 22, 23, 24, 25, 26, 27] [0, 1, 2, 3, 4, 5, 6, 7, 8, 9, 10, 11, 12, 13, 14, 15, 16, 17, 18] (wc := wM am G (snp T n mo) (S, h) (co, len) Tw (i_, ft, vl, td, tn) (ke, sp) Lo Wi) (wr := wL ad ao G L1 H1 P1 Tr1 Rg1 X1 D1 O1) rfl rfl rfl rfl rfl (by decide) (m_X8_node lau G am T n mo (S, h) (co, len) Tw (i_, ft, vl, td, tn) ke sp Lo Wi (xs (4 * K + 1)) (xs (4 * K + 2)) I.1 I.2.2.1) (by decide) rfl rfl (Nat.le_of_ble_eq_true rfl) ⟨by omega, by omega⟩ (fun r2 u hm => ?_)
  obtain ⟨N1, H2, X2, Q1, K1, Lo1, Wi1⟩ := u
  refine v_w (w' := wW ad ao am G L1 H1 P1 Tr1 Rg1 X1 D1 O1 N1 H2 X2 (xNode (xs (4 * K + 1)) (xs (4 * K + 2))) Q1 K1 Lo1 Wi1) rfl ?_
  refine v_istore (lv' := [(6, .int r2), (5, .int (nI (xNode (xs (4 * K + 1)) (xs (4 * K + 2))))), (4, .int (nI (4 * K))), (3, .ref ao), (2, .ref (am 0)), (1, .ref (ad 0)), (0, .ref b)]) F dL_law_1130 (by decide) rfl ?_
  refine v_aload_n F dL_law_1132 2 rfl rfl ?_
  refine v_cVIS F cs_RL_98 dL_law_1133 19 (ci := 8) rfl rfl [19, 20, 21, 22, 23, 24, 25, 26, 27] [0, 1, 2, 3, 4, 5, 6, 7, 8, 9, 10, 11, 12, 13, 14, 15, 16, 17, 18] (wc := wM am G N1 H2 X2 (xNode (xs (4 * K + 1)) (xs (4 * K + 2))) Q1 K1 Lo1 Wi1) (wr := wL ad ao G L1 H1 P1 Tr1 Rg1 X1 D1 O1) rfl rfl rfl rfl rfl (by decide) (m_X8_thrown lau G am N1 H2 X2 (xNode (xs (4 * K + 1)) (xs (4 * K + 2))) Q1 K1 Lo1 Wi1) (by decide) rfl rfl (Nat.le_of_ble_eq_true rfl) ⟨by omega, by omega⟩ (fun r3 u3 hr3 => ?_)
  refine v_topi (nI (xNode (xs (4 * K + 1)) (xs (4 * K + 2)))) hr3 ?_
  refine v_w (w' := wW ad ao am G L1 H1 P1 Tr1 Rg1 X1 D1 O1 N1 H2 X2 (xNode (xs (4 * K + 1)) (xs (4 * K + 2))) Q1 K1 Lo1 Wi1) rfl ?_
  refine v_iload F dL_law_1136 rfl ?_
  refine v_icmp_eq F 1143 dL_law_1138 (by decide) (fun _ => ?_) (fun hq => absurd rfl hq)
  refine v_iload F dL_law_1143 rfl ?_
  have hcb : xNode (xs (4 * K + 1)) (xs (4 * K + 2)) < 2 ^ 31 := by
    unfold xNode
    repeat' split
    all_goals decide
  have hlr : LR (K + 1) L1 H1 P1 Tr1 Rg1 X1 D1 N1 H2 X2 := by
    have eD : D1 = Rd := eD
    by_cases hc : xNode (xs (4 * K + 1)) (xs (4 * K + 2)) = 0
    · obtain ⟨-, eN, eH2, eX2⟩ := hm.1 hc
      exact ⟨_, _, _, _, _, _, _, _, eL, eH, eX, eN, eH2, eX2, by rw [eD]; exact I.look hkk hci⟩
    · obtain ⟨eN, eH2, eX2⟩ := hm.2 hc
      exact ⟨_, _, _, _, _, _, _, _, eL, eH, eX, eN, eH2, eX2, by rw [eD]; exact I.look hkk hci⟩
  refine v_if_ne F 1160 dL_law_1145 (by decide) (fun _ => ?_) (fun hz => ?_)
  · refine v_goto F 1714 dL_law_1160 (by decide) ?_
    refine v_st (w' := wW ad ao am G L1 H1 P1 Tr1 Rg1 X1 D1 O1 N1 H2 X2 (xNode (xs (4 * K + 1)) (xs (4 * K + 2))) Q1 K1 Lo1 Wi1) (pc' := 1714) (st' := []) rfl rfl rfl [2, 3, 4, 5, 6] (lv' := lwl ad ao am b (4 * K)) rfl ?_
    refine v_widen (k' := 30 + (K + 1)) (n' := 10000 + 6 * (K + 1)) (by omega) (by omega) ?_
    exact hnx _ _ _ _ _ _ _ _ _ _ _ _ _ _ _ _ hlr
  · have hc : xNode (xs (4 * K + 1)) (xs (4 * K + 2)) = 0 := (nI_eq hcb (by decide)).mp hz
    refine v_aload_n F dL_law_1148 3 rfl rfl ?_
    refine v_iconst (v := nI 0) F dL_law_1149 (by decide) ?_
    refine v_laldN F dL_law_1150 18 rfl 0 rfl (by decide) (by decide) (O1 0) rfl ?_
    refine v_iload F dL_law_1151 rfl ?_
    refine v_i2l F dL_law_1153 ?_
    refine v_lcmp F dL_law_1154 ?_
    have e1 : O1 0 = r2.toInt64 := (h0 hc).trans (congrArg Int32.toInt64 (hm.1 hc).1.symm)
    refine v_if_eq F 1160 dL_law_1155 (by decide) (fun _ => ?_) (fun hq => absurd (by rw [e1]; exact lg_self _) hq)
    refine v_goto F 1714 dL_law_1160 (by decide) ?_
    refine v_st (w' := wW ad ao am G L1 H1 P1 Tr1 Rg1 X1 D1 O1 N1 H2 X2 (xNode (xs (4 * K + 1)) (xs (4 * K + 2))) Q1 K1 Lo1 Wi1) (pc' := 1714) (st' := []) rfl rfl rfl [2, 3, 4, 5, 6] (lv' := lwl ad ao am b (4 * K)) rfl ?_
    refine v_widen (k' := 30 + (K + 1)) (n' := 10000 + 6 * (K + 1)) (by omega) (by omega) ?_
    exact hnx _ _ _ _ _ _ _ _ _ _ _ _ _ _ _ _ hlr
theorem cs_RL_160 : CSV RL 160 RX8 yX8_row cX8_row 3 (some .int) 2 := ⟨wC_yX8_row, wM_RL_160, wIm_yX8_row, wSe_yX8_row, wI_RX8, by decide +kernel, by decide⟩
set_option maxHeartbeats 1000000 in
set_option maxRecDepth 100000 in
theorem lc_18 (lau : Launch) (G : GT) {p : Program} {e : Env} {s : State} {m : MethodId} {args : Array Value} {below : List Frame} {meth : Method} {c : Code} {A : Nat → Prop} {Q : State → Prop} (F : FX p room_1 s m args c code RL 9 2000 G A) (hSF : SF s) (hSH : SH A s s.heap) (hNC : NC s) (hst : lau.stackTraces = false) {b L : Nat} {xs : Nat → Int32} (hX : va_X b L xs s s.heap) (hbl : b < s.heap.size) (hbA : ¬ A b) (hL : L ≤ 2048) (ad : Nat → Nat) (ao : Nat) (am : Nat → Nat) (T : Nat → Int32) (n mo ver : Nat) (S : Nat → Int32) (h : Nat) (P : PT) (Tr : TT) (Rg : RT) (co : Nat → Int32) (len : Nat) (Rd : DT) (O : Nat → Int64) (Tw i_ : Nat) (ft : Bool) (vl : Nat) (td : Nat → Int32) (tn : Nat) (ke sp Lo Wi : Nat → Int32) {K : Nat} (hK : 4 * K + 4 ≤ L) (I : LIV K T n mo ver S h P Tr Rg co len Rd) (hnx : NX lau p e s m args below meth c G A Q ad ao am b K) : V p lau e room_1 s m args below meth c 9 G A Q (wW ad ao am G (T, n, mo, ver) (S, h) P Tr Rg (co, len) Rd O (snp T n mo) (S, h) (co, len) Tw (i_, ft, vl, td, tn) (ke, sp) Lo Wi) (30 + K) (10000 + 6 * K) 1163 (lwl ad ao am b (4 * K)) [] := by
  have hkk : K < 512 := by omega
  obtain ⟨hk1, hk2⟩ := room_k hkk
  refine v_aload_n F dL_law_1163 1 rfl rfl ?_
  refine v_aload_n F dL_law_1164 0 rfl rfl ?_
  refine v_iload F dL_law_1165 rfl ?_
  refine v_iconst (v := nI 1) F dL_law_1167 (by decide) ?_
  refine v_iadd F dL_law_1168 ?_
  refine v_topi (nI (4 * K + 1)) (nI_add (4 * K) 1) ?_
  refine v_sld F hX hbl hbA (4 * K + 1) rfl (by omega) (by omega) dL_law_1169 ?_
  refine v_aload_n F dL_law_1170 0 rfl rfl ?_
  refine v_iload F dL_law_1171 rfl ?_
  refine v_iconst (v := nI 2) F dL_law_1173 (by decide) ?_
  refine v_iadd F dL_law_1174 ?_
  refine v_topi (nI (4 * K + 2)) (nI_add (4 * K) 2) ?_
  refine v_sld F hX hbl hbA (4 * K + 2) rfl (by omega) (by omega) dL_law_1175 ?_
  refine v_aload_n F dL_law_1176 3 rfl rfl ?_
  refine v_cH F hSF hSH hNC ch_row dL_law_1177 [0, 1, 2, 3, 4, 5, 6, 7, 8, 9, 10, 11, 12, 13, 14, 15, 16, 17, 18] [19, 20, 21, 22, 23, 24, 25, 26, 27] (wc := wL ad ao G (T, n, mo, ver) (S, h) P Tr Rg (co, len) Rd O) (wr := wM am G (snp T n mo) (S, h) (co, len) Tw (i_, ft, vl, td, tn) (ke, sp) Lo Wi) rfl rfl rfl rfl rfl (by decide) (h_row lau G ad ao T n mo ver S h P Tr Rg co len Rd O (xs (4 * K + 1)) (xs (4 * K + 2)) K I hst) (by decide) rfl rfl (Nat.le_of_ble_eq_true rfl) ⟨by omega, by omega⟩ (fun r u hw => ?_)
  obtain ⟨L1, H1, P1, Tr1, Rg1, X1, D1, O1⟩ := u
  refine v_pick [9, 10, 11, 12, 13, 14, 15, 16, 17, 18, 19, 20, 21, 22, 23, 24, 25, 26, 27, 0, 1, 2, 3, 4, 5, 6, 7, 8] (w' := wL ad ao G L1 H1 P1 Tr1 Rg1 X1 D1 O1 ++ wM am G (snp T n mo) (S, h) (co, len) Tw (i_, ft, vl, td, tn) (ke, sp) Lo Wi) rfl rfl rfl ?_
  obtain ⟨hr1, hci, h0, eL, eH, eX, eD⟩ := hw
  refine v_topi (nI (xRow (xs (4 * K + 1)) (xs (4 * K + 2)))) hr1 ?_
  refine v_istore (lv' := [(5, .int (nI (xRow (xs (4 * K + 1)) (xs (4 * K + 2))))), (4, .int (nI (4 * K))), (3, .ref ao), (2, .ref (am 0)), (1, .ref (ad 0)), (0, .ref b)]) F dL_law_1180 (by decide) rfl ?_
  refine v_aload_n F dL_law_1182 2 rfl rfl ?_
  refine v_aload_n F dL_law_1183 0 rfl rfl ?_
  refine v_iload F dL_law_1184 rfl ?_
  refine v_iconst (v := nI 1) F dL_law_1186 (by decide) ?_
  refine v_iadd F dL_law_1187 ?_
  refine v_topi (nI (4 * K + 1)) (nI_add (4 * K) 1) ?_
  refine v_sld F hX hbl hbA (4 * K + 1) rfl (by omega) (by omega) dL_law_1188 ?_
  refine v_aload_n F dL_law_1189 0 rfl rfl ?_
  refine v_iload F dL_law_1190 rfl ?_
  refine v_iconst (v := nI 2) F dL_law_1192 (by decide) ?_
  refine v_iadd F dL_law_1193 ?_
  refine v_topi (nI (4 * K + 2)) (nI_add (4 * K) 2) ?_
  refine v_sld F hX hbl hbA (4 * K + 2) rfl (by omega) (by omega) dL_law_1194 ?_
  refine v_cVIS F cs_RL_160 dL_law_1195 19 (ci := 8) rfl rfl [19, 20, 21, 22, 23, 24, 25, 26, 27] [0, 1, 2, 3, 4, 5, 6, 7, 8, 9, 10, 11, 12, 13, 14, 15, 16, 17, 18] (wc := wM am G (snp T n mo) (S, h) (co, len) Tw (i_, ft, vl, td, tn) (ke, sp) Lo Wi) (wr := wL ad ao G L1 H1 P1 Tr1 Rg1 X1 D1 O1) rfl rfl rfl rfl rfl (by decide) (m_X8_row lau G am T n mo (S, h) (co, len) Tw (i_, ft, vl, td, tn) (ke, sp) Lo Wi (xs (4 * K + 1)) (xs (4 * K + 2)) I.1) (by decide) rfl rfl (Nat.le_of_ble_eq_true rfl) ⟨by omega, by omega⟩ (fun r2 u hm => ?_)
  obtain ⟨N1, H2, X2, Q1, K1, Lo1, Wi1⟩ := u
  refine v_w (w' := wW ad ao am G L1 H1 P1 Tr1 Rg1 X1 D1 O1 N1 H2 X2 (xRow (xs (4 * K + 1)) (xs (4 * K + 2))) Q1 K1 Lo1 Wi1) rfl ?_
  refine v_istore (lv' := [(6, .int r2), (5, .int (nI (xRow (xs (4 * K + 1)) (xs (4 * K + 2))))), (4, .int (nI (4 * K))), (3, .ref ao), (2, .ref (am 0)), (1, .ref (ad 0)), (0, .ref b)]) F dL_law_1198 (by decide) rfl ?_
  refine v_aload_n F dL_law_1200 2 rfl rfl ?_
  refine v_cVIS F cs_RL_98 dL_law_1201 19 (ci := 8) rfl rfl [19, 20, 21, 22, 23, 24, 25, 26, 27] [0, 1, 2, 3, 4, 5, 6, 7, 8, 9, 10, 11, 12, 13, 14, 15, 16, 17, 18] (wc := wM am G N1 H2 X2 (xRow (xs (4 * K + 1)) (xs (4 * K + 2))) Q1 K1 Lo1 Wi1) (wr := wL ad ao G L1 H1 P1 Tr1 Rg1 X1 D1 O1) rfl rfl rfl rfl rfl (by decide) (m_X8_thrown lau G am N1 H2 X2 (xRow (xs (4 * K + 1)) (xs (4 * K + 2))) Q1 K1 Lo1 Wi1) (by decide) rfl rfl (Nat.le_of_ble_eq_true rfl) ⟨by omega, by omega⟩ (fun r3 u3 hr3 => ?_)
  refine v_topi (nI (xRow (xs (4 * K + 1)) (xs (4 * K + 2)))) hr3 ?_
  refine v_w (w' := wW ad ao am G L1 H1 P1 Tr1 Rg1 X1 D1 O1 N1 H2 X2 (xRow (xs (4 * K + 1)) (xs (4 * K + 2))) Q1 K1 Lo1 Wi1) rfl ?_
  refine v_iload F dL_law_1204 rfl ?_
  refine v_icmp_eq F 1211 dL_law_1206 (by decide) (fun _ => ?_) (fun hq => absurd rfl hq)
  refine v_iload F dL_law_1211 rfl ?_
  have hcb : xRow (xs (4 * K + 1)) (xs (4 * K + 2)) < 2 ^ 31 := by
    unfold xRow
    repeat' split
    all_goals decide
  have hlr : LR (K + 1) L1 H1 P1 Tr1 Rg1 X1 D1 N1 H2 X2 := by
    have eD : D1 = Rd := eD
    by_cases hc : xRow (xs (4 * K + 1)) (xs (4 * K + 2)) = 0
    · obtain ⟨-, eN, eH2, eX2⟩ := hm.1 hc
      exact ⟨_, _, _, _, _, _, _, _, eL, eH, eX, eN, eH2, eX2, by rw [eD]; exact I.look hkk hci⟩
    · obtain ⟨eN, eH2, eX2⟩ := hm.2 hc
      exact ⟨_, _, _, _, _, _, _, _, eL, eH, eX, eN, eH2, eX2, by rw [eD]; exact I.look hkk hci⟩
  refine v_if_ne F 1228 dL_law_1213 (by decide) (fun _ => ?_) (fun hz => ?_)
  · refine v_goto F 1714 dL_law_1228 (by decide) ?_
    refine v_st (w' := wW ad ao am G L1 H1 P1 Tr1 Rg1 X1 D1 O1 N1 H2 X2 (xRow (xs (4 * K + 1)) (xs (4 * K + 2))) Q1 K1 Lo1 Wi1) (pc' := 1714) (st' := []) rfl rfl rfl [2, 3, 4, 5, 6] (lv' := lwl ad ao am b (4 * K)) rfl ?_
    refine v_widen (k' := 30 + (K + 1)) (n' := 10000 + 6 * (K + 1)) (by omega) (by omega) ?_
    exact hnx _ _ _ _ _ _ _ _ _ _ _ _ _ _ _ _ hlr
  · have hc : xRow (xs (4 * K + 1)) (xs (4 * K + 2)) = 0 := (nI_eq hcb (by decide)).mp hz
    refine v_aload_n F dL_law_1216 3 rfl rfl ?_
    refine v_iconst (v := nI 0) F dL_law_1217 (by decide) ?_
    refine v_laldN F dL_law_1218 18 rfl 0 rfl (by decide) (by decide) (O1 0) rfl ?_
    refine v_iload F dL_law_1219 rfl ?_
    refine v_i2l F dL_law_1221 ?_
    refine v_lcmp F dL_law_1222 ?_
    have e1 : O1 0 = r2.toInt64 := (h0 hc).trans (congrArg Int32.toInt64 (hm.1 hc).1.symm)
    refine v_if_eq F 1228 dL_law_1223 (by decide) (fun _ => ?_) (fun hq => absurd (by rw [e1]; exact lg_self _) hq)
    refine v_goto F 1714 dL_law_1228 (by decide) ?_
    refine v_st (w' := wW ad ao am G L1 H1 P1 Tr1 Rg1 X1 D1 O1 N1 H2 X2 (xRow (xs (4 * K + 1)) (xs (4 * K + 2))) Q1 K1 Lo1 Wi1) (pc' := 1714) (st' := []) rfl rfl rfl [2, 3, 4, 5, 6] (lv' := lwl ad ao am b (4 * K)) rfl ?_
    refine v_widen (k' := 30 + (K + 1)) (n' := 10000 + 6 * (K + 1)) (by omega) (by omega) ?_
    exact hnx _ _ _ _ _ _ _ _ _ _ _ _ _ _ _ _ hlr
theorem cs_RL_163 : CSV RL 163 RX8 yX8_sum cX8_sum 3 (some .int) 2 := ⟨wC_yX8_sum, wM_RL_163, wIm_yX8_sum, wSe_yX8_sum, wI_RX8, by decide +kernel, by decide⟩
set_option maxHeartbeats 1000000 in
set_option maxRecDepth 100000 in
theorem lc_19 (lau : Launch) (G : GT) {p : Program} {e : Env} {s : State} {m : MethodId} {args : Array Value} {below : List Frame} {meth : Method} {c : Code} {A : Nat → Prop} {Q : State → Prop} (F : FX p room_1 s m args c code RL 9 2000 G A) (hSF : SF s) (hSH : SH A s s.heap) (hNC : NC s) (hst : lau.stackTraces = false) {b L : Nat} {xs : Nat → Int32} (hX : va_X b L xs s s.heap) (hbl : b < s.heap.size) (hbA : ¬ A b) (hL : L ≤ 2048) (ad : Nat → Nat) (ao : Nat) (am : Nat → Nat) (T : Nat → Int32) (n mo ver : Nat) (S : Nat → Int32) (h : Nat) (P : PT) (Tr : TT) (Rg : RT) (co : Nat → Int32) (len : Nat) (Rd : DT) (O : Nat → Int64) (Tw i_ : Nat) (ft : Bool) (vl : Nat) (td : Nat → Int32) (tn : Nat) (ke sp Lo Wi : Nat → Int32) {K : Nat} (hK : 4 * K + 4 ≤ L) (I : LIV K T n mo ver S h P Tr Rg co len Rd) (hnx : NX lau p e s m args below meth c G A Q ad ao am b K) : V p lau e room_1 s m args below meth c 9 G A Q (wW ad ao am G (T, n, mo, ver) (S, h) P Tr Rg (co, len) Rd O (snp T n mo) (S, h) (co, len) Tw (i_, ft, vl, td, tn) (ke, sp) Lo Wi) (30 + K) (10000 + 6 * K) 1231 (lwl ad ao am b (4 * K)) [] := by
  have hkk : K < 512 := by omega
  obtain ⟨hk1, hk2⟩ := room_k hkk
  refine v_aload_n F dL_law_1231 1 rfl rfl ?_
  refine v_aload_n F dL_law_1232 0 rfl rfl ?_
  refine v_iload F dL_law_1233 rfl ?_
  refine v_iconst (v := nI 1) F dL_law_1235 (by decide) ?_
  refine v_iadd F dL_law_1236 ?_
  refine v_topi (nI (4 * K + 1)) (nI_add (4 * K) 1) ?_
  refine v_sld F hX hbl hbA (4 * K + 1) rfl (by omega) (by omega) dL_law_1237 ?_
  refine v_aload_n F dL_law_1238 0 rfl rfl ?_
  refine v_iload F dL_law_1239 rfl ?_
  refine v_iconst (v := nI 2) F dL_law_1241 (by decide) ?_
  refine v_iadd F dL_law_1242 ?_
  refine v_topi (nI (4 * K + 2)) (nI_add (4 * K) 2) ?_
  refine v_sld F hX hbl hbA (4 * K + 2) rfl (by omega) (by omega) dL_law_1243 ?_
  refine v_aload_n F dL_law_1244 3 rfl rfl ?_
  refine v_cH F hSF hSH hNC ch_sum dL_law_1245 [0, 1, 2, 3, 4, 5, 6, 7, 8, 9, 10, 11, 12, 13, 14, 15, 16, 17, 18] [19, 20, 21, 22, 23, 24, 25, 26, 27] (wc := wL ad ao G (T, n, mo, ver) (S, h) P Tr Rg (co, len) Rd O) (wr := wM am G (snp T n mo) (S, h) (co, len) Tw (i_, ft, vl, td, tn) (ke, sp) Lo Wi) rfl rfl rfl rfl rfl (by decide) (h_sum lau G ad ao T n mo ver S h P Tr Rg co len Rd O (xs (4 * K + 1)) (xs (4 * K + 2)) K I hst) (by decide) rfl rfl (Nat.le_of_ble_eq_true rfl) ⟨by omega, by omega⟩ (fun r u hw => ?_)
  obtain ⟨L1, H1, P1, Tr1, Rg1, X1, D1, O1⟩ := u
  refine v_pick [9, 10, 11, 12, 13, 14, 15, 16, 17, 18, 19, 20, 21, 22, 23, 24, 25, 26, 27, 0, 1, 2, 3, 4, 5, 6, 7, 8] (w' := wL ad ao G L1 H1 P1 Tr1 Rg1 X1 D1 O1 ++ wM am G (snp T n mo) (S, h) (co, len) Tw (i_, ft, vl, td, tn) (ke, sp) Lo Wi) rfl rfl rfl ?_
  obtain ⟨hr1, hci, h0, eL, eH, eX, eD⟩ := hw
  refine v_topi (nI (xSum (xs (4 * K + 1)) (xs (4 * K + 2)))) hr1 ?_
  refine v_istore (lv' := [(5, .int (nI (xSum (xs (4 * K + 1)) (xs (4 * K + 2))))), (4, .int (nI (4 * K))), (3, .ref ao), (2, .ref (am 0)), (1, .ref (ad 0)), (0, .ref b)]) F dL_law_1248 (by decide) rfl ?_
  refine v_aload_n F dL_law_1250 2 rfl rfl ?_
  refine v_aload_n F dL_law_1251 0 rfl rfl ?_
  refine v_iload F dL_law_1252 rfl ?_
  refine v_iconst (v := nI 1) F dL_law_1254 (by decide) ?_
  refine v_iadd F dL_law_1255 ?_
  refine v_topi (nI (4 * K + 1)) (nI_add (4 * K) 1) ?_
  refine v_sld F hX hbl hbA (4 * K + 1) rfl (by omega) (by omega) dL_law_1256 ?_
  refine v_aload_n F dL_law_1257 0 rfl rfl ?_
  refine v_iload F dL_law_1258 rfl ?_
  refine v_iconst (v := nI 2) F dL_law_1260 (by decide) ?_
  refine v_iadd F dL_law_1261 ?_
  refine v_topi (nI (4 * K + 2)) (nI_add (4 * K) 2) ?_
  refine v_sld F hX hbl hbA (4 * K + 2) rfl (by omega) (by omega) dL_law_1262 ?_
  refine v_cVIS F cs_RL_163 dL_law_1263 19 (ci := 8) rfl rfl [19, 20, 21, 22, 23, 24, 25, 26, 27] [0, 1, 2, 3, 4, 5, 6, 7, 8, 9, 10, 11, 12, 13, 14, 15, 16, 17, 18] (wc := wM am G (snp T n mo) (S, h) (co, len) Tw (i_, ft, vl, td, tn) (ke, sp) Lo Wi) (wr := wL ad ao G L1 H1 P1 Tr1 Rg1 X1 D1 O1) rfl rfl rfl rfl rfl (by decide) (m_X8_sum lau G am T n mo (S, h) (co, len) Tw (i_, ft, vl, td, tn) (ke, sp) Lo Wi (xs (4 * K + 1)) (xs (4 * K + 2)) I.1) (by decide) rfl rfl (Nat.le_of_ble_eq_true rfl) ⟨by omega, by omega⟩ (fun r2 u hm => ?_)
  obtain ⟨N1, H2, X2, Q1, K1, Lo1, Wi1⟩ := u
  refine v_w (w' := wW ad ao am G L1 H1 P1 Tr1 Rg1 X1 D1 O1 N1 H2 X2 (xSum (xs (4 * K + 1)) (xs (4 * K + 2))) Q1 K1 Lo1 Wi1) rfl ?_
  refine v_istore (lv' := [(6, .int r2), (5, .int (nI (xSum (xs (4 * K + 1)) (xs (4 * K + 2))))), (4, .int (nI (4 * K))), (3, .ref ao), (2, .ref (am 0)), (1, .ref (ad 0)), (0, .ref b)]) F dL_law_1266 (by decide) rfl ?_
  refine v_aload_n F dL_law_1268 2 rfl rfl ?_
  refine v_cVIS F cs_RL_98 dL_law_1269 19 (ci := 8) rfl rfl [19, 20, 21, 22, 23, 24, 25, 26, 27] [0, 1, 2, 3, 4, 5, 6, 7, 8, 9, 10, 11, 12, 13, 14, 15, 16, 17, 18] (wc := wM am G N1 H2 X2 (xSum (xs (4 * K + 1)) (xs (4 * K + 2))) Q1 K1 Lo1 Wi1) (wr := wL ad ao G L1 H1 P1 Tr1 Rg1 X1 D1 O1) rfl rfl rfl rfl rfl (by decide) (m_X8_thrown lau G am N1 H2 X2 (xSum (xs (4 * K + 1)) (xs (4 * K + 2))) Q1 K1 Lo1 Wi1) (by decide) rfl rfl (Nat.le_of_ble_eq_true rfl) ⟨by omega, by omega⟩ (fun r3 u3 hr3 => ?_)
  refine v_topi (nI (xSum (xs (4 * K + 1)) (xs (4 * K + 2)))) hr3 ?_
  refine v_w (w' := wW ad ao am G L1 H1 P1 Tr1 Rg1 X1 D1 O1 N1 H2 X2 (xSum (xs (4 * K + 1)) (xs (4 * K + 2))) Q1 K1 Lo1 Wi1) rfl ?_
  refine v_iload F dL_law_1272 rfl ?_
  refine v_icmp_eq F 1279 dL_law_1274 (by decide) (fun _ => ?_) (fun hq => absurd rfl hq)
  refine v_iload F dL_law_1279 rfl ?_
  have hcb : xSum (xs (4 * K + 1)) (xs (4 * K + 2)) < 2 ^ 31 := by
    unfold xSum
    repeat' split
    all_goals decide
  have hlr : LR (K + 1) L1 H1 P1 Tr1 Rg1 X1 D1 N1 H2 X2 := by
    have eD : D1 = Rd := eD
    by_cases hc : xSum (xs (4 * K + 1)) (xs (4 * K + 2)) = 0
    · obtain ⟨-, eN, eH2, eX2⟩ := hm.1 hc
      exact ⟨_, _, _, _, _, _, _, _, eL, eH, eX, eN, eH2, eX2, by rw [eD]; exact I.look hkk hci⟩
    · obtain ⟨eN, eH2, eX2⟩ := hm.2 hc
      exact ⟨_, _, _, _, _, _, _, _, eL, eH, eX, eN, eH2, eX2, by rw [eD]; exact I.look hkk hci⟩
  refine v_if_ne F 1296 dL_law_1281 (by decide) (fun _ => ?_) (fun hz => ?_)
  · refine v_goto F 1714 dL_law_1296 (by decide) ?_
    refine v_st (w' := wW ad ao am G L1 H1 P1 Tr1 Rg1 X1 D1 O1 N1 H2 X2 (xSum (xs (4 * K + 1)) (xs (4 * K + 2))) Q1 K1 Lo1 Wi1) (pc' := 1714) (st' := []) rfl rfl rfl [2, 3, 4, 5, 6] (lv' := lwl ad ao am b (4 * K)) rfl ?_
    refine v_widen (k' := 30 + (K + 1)) (n' := 10000 + 6 * (K + 1)) (by omega) (by omega) ?_
    exact hnx _ _ _ _ _ _ _ _ _ _ _ _ _ _ _ _ hlr
  · have hc : xSum (xs (4 * K + 1)) (xs (4 * K + 2)) = 0 := (nI_eq hcb (by decide)).mp hz
    refine v_aload_n F dL_law_1284 3 rfl rfl ?_
    refine v_iconst (v := nI 0) F dL_law_1285 (by decide) ?_
    refine v_laldN F dL_law_1286 18 rfl 0 rfl (by decide) (by decide) (O1 0) rfl ?_
    refine v_iload F dL_law_1287 rfl ?_
    refine v_i2l F dL_law_1289 ?_
    refine v_lcmp F dL_law_1290 ?_
    have e1 : O1 0 = r2.toInt64 := (h0 hc).trans (congrArg Int32.toInt64 (hm.1 hc).1.symm)
    refine v_if_eq F 1296 dL_law_1291 (by decide) (fun _ => ?_) (fun hq => absurd (by rw [e1]; exact lg_self _) hq)
    refine v_goto F 1714 dL_law_1296 (by decide) ?_
    refine v_st (w' := wW ad ao am G L1 H1 P1 Tr1 Rg1 X1 D1 O1 N1 H2 X2 (xSum (xs (4 * K + 1)) (xs (4 * K + 2))) Q1 K1 Lo1 Wi1) (pc' := 1714) (st' := []) rfl rfl rfl [2, 3, 4, 5, 6] (lv' := lwl ad ao am b (4 * K)) rfl ?_
    refine v_widen (k' := 30 + (K + 1)) (n' := 10000 + 6 * (K + 1)) (by omega) (by omega) ?_
    exact hnx _ _ _ _ _ _ _ _ _ _ _ _ _ _ _ _ hlr
theorem cs_RL_166 : CSV RL 166 RX8 yX8_count cX8_count 2 (some .int) 1 := ⟨wC_yX8_count, wM_RL_166, wIm_yX8_count, wSe_yX8_count, wI_RX8, by decide +kernel, by decide⟩
set_option maxHeartbeats 1000000 in
set_option maxRecDepth 100000 in
theorem lc_20 (lau : Launch) (G : GT) {p : Program} {e : Env} {s : State} {m : MethodId} {args : Array Value} {below : List Frame} {meth : Method} {c : Code} {A : Nat → Prop} {Q : State → Prop} (F : FX p room_1 s m args c code RL 9 2000 G A) (hSF : SF s) (hSH : SH A s s.heap) (hNC : NC s) (hst : lau.stackTraces = false) {b L : Nat} {xs : Nat → Int32} (hX : va_X b L xs s s.heap) (hbl : b < s.heap.size) (hbA : ¬ A b) (hL : L ≤ 2048) (ad : Nat → Nat) (ao : Nat) (am : Nat → Nat) (T : Nat → Int32) (n mo ver : Nat) (S : Nat → Int32) (h : Nat) (P : PT) (Tr : TT) (Rg : RT) (co : Nat → Int32) (len : Nat) (Rd : DT) (O : Nat → Int64) (Tw i_ : Nat) (ft : Bool) (vl : Nat) (td : Nat → Int32) (tn : Nat) (ke sp Lo Wi : Nat → Int32) {K : Nat} (hK : 4 * K + 4 ≤ L) (I : LIV K T n mo ver S h P Tr Rg co len Rd) (hnx : NX lau p e s m args below meth c G A Q ad ao am b K) : V p lau e room_1 s m args below meth c 9 G A Q (wW ad ao am G (T, n, mo, ver) (S, h) P Tr Rg (co, len) Rd O (snp T n mo) (S, h) (co, len) Tw (i_, ft, vl, td, tn) (ke, sp) Lo Wi) (30 + K) (10000 + 6 * K) 1299 (lwl ad ao am b (4 * K)) [] := by
  have hkk : K < 512 := by omega
  obtain ⟨hk1, hk2⟩ := room_k hkk
  refine v_aload_n F dL_law_1299 1 rfl rfl ?_
  refine v_aload_n F dL_law_1300 0 rfl rfl ?_
  refine v_iload F dL_law_1301 rfl ?_
  refine v_iconst (v := nI 1) F dL_law_1303 (by decide) ?_
  refine v_iadd F dL_law_1304 ?_
  refine v_topi (nI (4 * K + 1)) (nI_add (4 * K) 1) ?_
  refine v_sld F hX hbl hbA (4 * K + 1) rfl (by omega) (by omega) dL_law_1305 ?_
  refine v_aload_n F dL_law_1306 3 rfl rfl ?_
  refine v_cH F hSF hSH hNC ch_count dL_law_1307 [0, 1, 2, 3, 4, 5, 6, 7, 8, 9, 10, 11, 12, 13, 14, 15, 16, 17, 18] [19, 20, 21, 22, 23, 24, 25, 26, 27] (wc := wL ad ao G (T, n, mo, ver) (S, h) P Tr Rg (co, len) Rd O) (wr := wM am G (snp T n mo) (S, h) (co, len) Tw (i_, ft, vl, td, tn) (ke, sp) Lo Wi) rfl rfl rfl rfl rfl (by decide) (h_count lau G ad ao T n mo ver S h P Tr Rg co len Rd O (xs (4 * K + 1)) K I hst) (by decide) rfl rfl (Nat.le_of_ble_eq_true rfl) ⟨by omega, by omega⟩ (fun r u hw => ?_)
  obtain ⟨L1, H1, P1, Tr1, Rg1, X1, D1, O1⟩ := u
  refine v_pick [9, 10, 11, 12, 13, 14, 15, 16, 17, 18, 19, 20, 21, 22, 23, 24, 25, 26, 27, 0, 1, 2, 3, 4, 5, 6, 7, 8] (w' := wL ad ao G L1 H1 P1 Tr1 Rg1 X1 D1 O1 ++ wM am G (snp T n mo) (S, h) (co, len) Tw (i_, ft, vl, td, tn) (ke, sp) Lo Wi) rfl rfl rfl ?_
  obtain ⟨hr1, hci, h0, eL, eH, eX, eD⟩ := hw
  refine v_topi (nI (xCnt (xs (4 * K + 1)))) hr1 ?_
  refine v_istore (lv' := [(5, .int (nI (xCnt (xs (4 * K + 1))))), (4, .int (nI (4 * K))), (3, .ref ao), (2, .ref (am 0)), (1, .ref (ad 0)), (0, .ref b)]) F dL_law_1310 (by decide) rfl ?_
  refine v_aload_n F dL_law_1312 2 rfl rfl ?_
  refine v_aload_n F dL_law_1313 0 rfl rfl ?_
  refine v_iload F dL_law_1314 rfl ?_
  refine v_iconst (v := nI 1) F dL_law_1316 (by decide) ?_
  refine v_iadd F dL_law_1317 ?_
  refine v_topi (nI (4 * K + 1)) (nI_add (4 * K) 1) ?_
  refine v_sld F hX hbl hbA (4 * K + 1) rfl (by omega) (by omega) dL_law_1318 ?_
  refine v_cVIS F cs_RL_166 dL_law_1319 19 (ci := 8) rfl rfl [19, 20, 21, 22, 23, 24, 25, 26, 27] [0, 1, 2, 3, 4, 5, 6, 7, 8, 9, 10, 11, 12, 13, 14, 15, 16, 17, 18] (wc := wM am G (snp T n mo) (S, h) (co, len) Tw (i_, ft, vl, td, tn) (ke, sp) Lo Wi) (wr := wL ad ao G L1 H1 P1 Tr1 Rg1 X1 D1 O1) rfl rfl rfl rfl rfl (by decide) (m_X8_count lau G am T n mo S h (co, len) Tw (i_, ft, vl, td, tn) ke sp Lo Wi (xs (4 * K + 1)) I.1 I.2.2.1) (by decide) rfl rfl (Nat.le_of_ble_eq_true rfl) ⟨by omega, by omega⟩ (fun r2 u hm => ?_)
  obtain ⟨N1, H2, X2, Q1, K1, Lo1, Wi1⟩ := u
  refine v_w (w' := wW ad ao am G L1 H1 P1 Tr1 Rg1 X1 D1 O1 N1 H2 X2 (xCnt (xs (4 * K + 1))) Q1 K1 Lo1 Wi1) rfl ?_
  refine v_istore (lv' := [(6, .int r2), (5, .int (nI (xCnt (xs (4 * K + 1))))), (4, .int (nI (4 * K))), (3, .ref ao), (2, .ref (am 0)), (1, .ref (ad 0)), (0, .ref b)]) F dL_law_1322 (by decide) rfl ?_
  refine v_aload_n F dL_law_1324 2 rfl rfl ?_
  refine v_cVIS F cs_RL_98 dL_law_1325 19 (ci := 8) rfl rfl [19, 20, 21, 22, 23, 24, 25, 26, 27] [0, 1, 2, 3, 4, 5, 6, 7, 8, 9, 10, 11, 12, 13, 14, 15, 16, 17, 18] (wc := wM am G N1 H2 X2 (xCnt (xs (4 * K + 1))) Q1 K1 Lo1 Wi1) (wr := wL ad ao G L1 H1 P1 Tr1 Rg1 X1 D1 O1) rfl rfl rfl rfl rfl (by decide) (m_X8_thrown lau G am N1 H2 X2 (xCnt (xs (4 * K + 1))) Q1 K1 Lo1 Wi1) (by decide) rfl rfl (Nat.le_of_ble_eq_true rfl) ⟨by omega, by omega⟩ (fun r3 u3 hr3 => ?_)
  refine v_topi (nI (xCnt (xs (4 * K + 1)))) hr3 ?_
  refine v_w (w' := wW ad ao am G L1 H1 P1 Tr1 Rg1 X1 D1 O1 N1 H2 X2 (xCnt (xs (4 * K + 1))) Q1 K1 Lo1 Wi1) rfl ?_
  refine v_iload F dL_law_1328 rfl ?_
  refine v_icmp_eq F 1335 dL_law_1330 (by decide) (fun _ => ?_) (fun hq => absurd rfl hq)
  refine v_iload F dL_law_1335 rfl ?_
  have hcb : xCnt (xs (4 * K + 1)) < 2 ^ 31 := by
    unfold xCnt
    repeat' split
    all_goals decide
  have hlr : LR (K + 1) L1 H1 P1 Tr1 Rg1 X1 D1 N1 H2 X2 := by
    have eD : D1 = Rd := eD
    by_cases hc : xCnt (xs (4 * K + 1)) = 0
    · obtain ⟨-, eN, eH2, eX2⟩ := hm.1 hc
      exact ⟨_, _, _, _, _, _, _, _, eL, eH, eX, eN, eH2, eX2, by rw [eD]; exact I.look hkk hci⟩
    · obtain ⟨eN, eH2, eX2⟩ := hm.2 hc
      exact ⟨_, _, _, _, _, _, _, _, eL, eH, eX, eN, eH2, eX2, by rw [eD]; exact I.look hkk hci⟩
  refine v_if_ne F 1352 dL_law_1337 (by decide) (fun _ => ?_) (fun hz => ?_)
  · refine v_goto F 1714 dL_law_1352 (by decide) ?_
    refine v_st (w' := wW ad ao am G L1 H1 P1 Tr1 Rg1 X1 D1 O1 N1 H2 X2 (xCnt (xs (4 * K + 1))) Q1 K1 Lo1 Wi1) (pc' := 1714) (st' := []) rfl rfl rfl [2, 3, 4, 5, 6] (lv' := lwl ad ao am b (4 * K)) rfl ?_
    refine v_widen (k' := 30 + (K + 1)) (n' := 10000 + 6 * (K + 1)) (by omega) (by omega) ?_
    exact hnx _ _ _ _ _ _ _ _ _ _ _ _ _ _ _ _ hlr
  · have hc : xCnt (xs (4 * K + 1)) = 0 := (nI_eq hcb (by decide)).mp hz
    refine v_aload_n F dL_law_1340 3 rfl rfl ?_
    refine v_iconst (v := nI 0) F dL_law_1341 (by decide) ?_
    refine v_laldN F dL_law_1342 18 rfl 0 rfl (by decide) (by decide) (O1 0) rfl ?_
    refine v_iload F dL_law_1343 rfl ?_
    refine v_i2l F dL_law_1345 ?_
    refine v_lcmp F dL_law_1346 ?_
    have e1 : O1 0 = r2.toInt64 := (h0 hc).trans (congrArg Int32.toInt64 (hm.1 hc).1.symm)
    refine v_if_eq F 1352 dL_law_1347 (by decide) (fun _ => ?_) (fun hq => absurd (by rw [e1]; exact lg_self _) hq)
    refine v_goto F 1714 dL_law_1352 (by decide) ?_
    refine v_st (w' := wW ad ao am G L1 H1 P1 Tr1 Rg1 X1 D1 O1 N1 H2 X2 (xCnt (xs (4 * K + 1))) Q1 K1 Lo1 Wi1) (pc' := 1714) (st' := []) rfl rfl rfl [2, 3, 4, 5, 6] (lv' := lwl ad ao am b (4 * K)) rfl ?_
    refine v_widen (k' := 30 + (K + 1)) (n' := 10000 + 6 * (K + 1)) (by omega) (by omega) ?_
    exact hnx _ _ _ _ _ _ _ _ _ _ _ _ _ _ _ _ hlr
theorem cs_RL_169 : CSV RL 169 RX8 yX8_ifAdded cX8_ifAdded 3 (some .int) 2 := ⟨wC_yX8_ifAdded, wM_RL_169, wIm_yX8_ifAdded, wSe_yX8_ifAdded, wI_RX8, by decide +kernel, by decide⟩
set_option maxHeartbeats 1000000 in
set_option maxRecDepth 100000 in
theorem lc_21 (lau : Launch) (G : GT) {p : Program} {e : Env} {s : State} {m : MethodId} {args : Array Value} {below : List Frame} {meth : Method} {c : Code} {A : Nat → Prop} {Q : State → Prop} (F : FX p room_1 s m args c code RL 9 2000 G A) (hSF : SF s) (hSH : SH A s s.heap) (hNC : NC s) (hst : lau.stackTraces = false) {b L : Nat} {xs : Nat → Int32} (hX : va_X b L xs s s.heap) (hbl : b < s.heap.size) (hbA : ¬ A b) (hL : L ≤ 2048) (ad : Nat → Nat) (ao : Nat) (am : Nat → Nat) (T : Nat → Int32) (n mo ver : Nat) (S : Nat → Int32) (h : Nat) (P : PT) (Tr : TT) (Rg : RT) (co : Nat → Int32) (len : Nat) (Rd : DT) (O : Nat → Int64) (Tw i_ : Nat) (ft : Bool) (vl : Nat) (td : Nat → Int32) (tn : Nat) (ke sp Lo Wi : Nat → Int32) {K : Nat} (hK : 4 * K + 4 ≤ L) (I : LIV K T n mo ver S h P Tr Rg co len Rd) (hnx : NX lau p e s m args below meth c G A Q ad ao am b K) : V p lau e room_1 s m args below meth c 9 G A Q (wW ad ao am G (T, n, mo, ver) (S, h) P Tr Rg (co, len) Rd O (snp T n mo) (S, h) (co, len) Tw (i_, ft, vl, td, tn) (ke, sp) Lo Wi) (30 + K) (10000 + 6 * K) 1355 (lwl ad ao am b (4 * K)) [] := by
  have hkk : K < 512 := by omega
  obtain ⟨hk1, hk2⟩ := room_k hkk
  refine v_aload_n F dL_law_1355 1 rfl rfl ?_
  refine v_aload_n F dL_law_1356 0 rfl rfl ?_
  refine v_iload F dL_law_1357 rfl ?_
  refine v_iconst (v := nI 1) F dL_law_1359 (by decide) ?_
  refine v_iadd F dL_law_1360 ?_
  refine v_topi (nI (4 * K + 1)) (nI_add (4 * K) 1) ?_
  refine v_sld F hX hbl hbA (4 * K + 1) rfl (by omega) (by omega) dL_law_1361 ?_
  refine v_aload_n F dL_law_1362 0 rfl rfl ?_
  refine v_iload F dL_law_1363 rfl ?_
  refine v_iconst (v := nI 2) F dL_law_1365 (by decide) ?_
  refine v_iadd F dL_law_1366 ?_
  refine v_topi (nI (4 * K + 2)) (nI_add (4 * K) 2) ?_
  refine v_sld F hX hbl hbA (4 * K + 2) rfl (by omega) (by omega) dL_law_1367 ?_
  refine v_aload_n F dL_law_1368 3 rfl rfl ?_
  refine v_cH F hSF hSH hNC ch_ifAdded dL_law_1369 [0, 1, 2, 3, 4, 5, 6, 7, 8, 9, 10, 11, 12, 13, 14, 15, 16, 17, 18] [19, 20, 21, 22, 23, 24, 25, 26, 27] (wc := wL ad ao G (T, n, mo, ver) (S, h) P Tr Rg (co, len) Rd O) (wr := wM am G (snp T n mo) (S, h) (co, len) Tw (i_, ft, vl, td, tn) (ke, sp) Lo Wi) rfl rfl rfl rfl rfl (by decide) (h_ifAdded lau G ad ao T n mo ver S h P Tr Rg co len Rd O (xs (4 * K + 1)) (xs (4 * K + 2)) K I hst) (by decide) rfl rfl (Nat.le_of_ble_eq_true rfl) ⟨by omega, by omega⟩ (fun r u hw => ?_)
  obtain ⟨L1, H1, P1, Tr1, Rg1, X1, D1, O1⟩ := u
  refine v_pick [9, 10, 11, 12, 13, 14, 15, 16, 17, 18, 19, 20, 21, 22, 23, 24, 25, 26, 27, 0, 1, 2, 3, 4, 5, 6, 7, 8] (w' := wL ad ao G L1 H1 P1 Tr1 Rg1 X1 D1 O1 ++ wM am G (snp T n mo) (S, h) (co, len) Tw (i_, ft, vl, td, tn) (ke, sp) Lo Wi) rfl rfl rfl ?_
  obtain ⟨hr1, hci, h0, eL, eH, eX, eD⟩ := hw
  refine v_topi (nI (xIfa (xs (4 * K + 1)) (xs (4 * K + 2)))) hr1 ?_
  refine v_istore (lv' := [(5, .int (nI (xIfa (xs (4 * K + 1)) (xs (4 * K + 2))))), (4, .int (nI (4 * K))), (3, .ref ao), (2, .ref (am 0)), (1, .ref (ad 0)), (0, .ref b)]) F dL_law_1372 (by decide) rfl ?_
  refine v_aload_n F dL_law_1374 2 rfl rfl ?_
  refine v_aload_n F dL_law_1375 0 rfl rfl ?_
  refine v_iload F dL_law_1376 rfl ?_
  refine v_iconst (v := nI 1) F dL_law_1378 (by decide) ?_
  refine v_iadd F dL_law_1379 ?_
  refine v_topi (nI (4 * K + 1)) (nI_add (4 * K) 1) ?_
  refine v_sld F hX hbl hbA (4 * K + 1) rfl (by omega) (by omega) dL_law_1380 ?_
  refine v_aload_n F dL_law_1381 0 rfl rfl ?_
  refine v_iload F dL_law_1382 rfl ?_
  refine v_iconst (v := nI 2) F dL_law_1384 (by decide) ?_
  refine v_iadd F dL_law_1385 ?_
  refine v_topi (nI (4 * K + 2)) (nI_add (4 * K) 2) ?_
  refine v_sld F hX hbl hbA (4 * K + 2) rfl (by omega) (by omega) dL_law_1386 ?_
  refine v_cVIS F cs_RL_169 dL_law_1387 19 (ci := 8) rfl rfl [19, 20, 21, 22, 23, 24, 25, 26, 27] [0, 1, 2, 3, 4, 5, 6, 7, 8, 9, 10, 11, 12, 13, 14, 15, 16, 17, 18] (wc := wM am G (snp T n mo) (S, h) (co, len) Tw (i_, ft, vl, td, tn) (ke, sp) Lo Wi) (wr := wL ad ao G L1 H1 P1 Tr1 Rg1 X1 D1 O1) rfl rfl rfl rfl rfl (by decide) (m_X8_ifAdded lau G am T n mo (S, h) (co, len) Tw (i_, ft, vl, td, tn) (ke, sp) Lo Wi (xs (4 * K + 1)) (xs (4 * K + 2)) I.1) (by decide) rfl rfl (Nat.le_of_ble_eq_true rfl) ⟨by omega, by omega⟩ (fun r2 u hm => ?_)
  obtain ⟨N1, H2, X2, Q1, K1, Lo1, Wi1⟩ := u
  refine v_w (w' := wW ad ao am G L1 H1 P1 Tr1 Rg1 X1 D1 O1 N1 H2 X2 (xIfa (xs (4 * K + 1)) (xs (4 * K + 2))) Q1 K1 Lo1 Wi1) rfl ?_
  refine v_istore (lv' := [(6, .int r2), (5, .int (nI (xIfa (xs (4 * K + 1)) (xs (4 * K + 2))))), (4, .int (nI (4 * K))), (3, .ref ao), (2, .ref (am 0)), (1, .ref (ad 0)), (0, .ref b)]) F dL_law_1390 (by decide) rfl ?_
  refine v_aload_n F dL_law_1392 2 rfl rfl ?_
  refine v_cVIS F cs_RL_98 dL_law_1393 19 (ci := 8) rfl rfl [19, 20, 21, 22, 23, 24, 25, 26, 27] [0, 1, 2, 3, 4, 5, 6, 7, 8, 9, 10, 11, 12, 13, 14, 15, 16, 17, 18] (wc := wM am G N1 H2 X2 (xIfa (xs (4 * K + 1)) (xs (4 * K + 2))) Q1 K1 Lo1 Wi1) (wr := wL ad ao G L1 H1 P1 Tr1 Rg1 X1 D1 O1) rfl rfl rfl rfl rfl (by decide) (m_X8_thrown lau G am N1 H2 X2 (xIfa (xs (4 * K + 1)) (xs (4 * K + 2))) Q1 K1 Lo1 Wi1) (by decide) rfl rfl (Nat.le_of_ble_eq_true rfl) ⟨by omega, by omega⟩ (fun r3 u3 hr3 => ?_)
  refine v_topi (nI (xIfa (xs (4 * K + 1)) (xs (4 * K + 2)))) hr3 ?_
  refine v_w (w' := wW ad ao am G L1 H1 P1 Tr1 Rg1 X1 D1 O1 N1 H2 X2 (xIfa (xs (4 * K + 1)) (xs (4 * K + 2))) Q1 K1 Lo1 Wi1) rfl ?_
  refine v_iload F dL_law_1396 rfl ?_
  refine v_icmp_eq F 1403 dL_law_1398 (by decide) (fun _ => ?_) (fun hq => absurd rfl hq)
  refine v_iload F dL_law_1403 rfl ?_
  have hcb : xIfa (xs (4 * K + 1)) (xs (4 * K + 2)) < 2 ^ 31 := by
    unfold xIfa
    repeat' split
    all_goals decide
  have hlr : LR (K + 1) L1 H1 P1 Tr1 Rg1 X1 D1 N1 H2 X2 := by
    have eD : D1 = Rd := eD
    by_cases hc : xIfa (xs (4 * K + 1)) (xs (4 * K + 2)) = 0
    · obtain ⟨-, eN, eH2, eX2⟩ := hm.1 hc
      exact ⟨_, _, _, _, _, _, _, _, eL, eH, eX, eN, eH2, eX2, by rw [eD]; exact I.look hkk hci⟩
    · obtain ⟨eN, eH2, eX2⟩ := hm.2 hc
      exact ⟨_, _, _, _, _, _, _, _, eL, eH, eX, eN, eH2, eX2, by rw [eD]; exact I.look hkk hci⟩
  refine v_if_ne F 1420 dL_law_1405 (by decide) (fun _ => ?_) (fun hz => ?_)
  · refine v_goto F 1714 dL_law_1420 (by decide) ?_
    refine v_st (w' := wW ad ao am G L1 H1 P1 Tr1 Rg1 X1 D1 O1 N1 H2 X2 (xIfa (xs (4 * K + 1)) (xs (4 * K + 2))) Q1 K1 Lo1 Wi1) (pc' := 1714) (st' := []) rfl rfl rfl [2, 3, 4, 5, 6] (lv' := lwl ad ao am b (4 * K)) rfl ?_
    refine v_widen (k' := 30 + (K + 1)) (n' := 10000 + 6 * (K + 1)) (by omega) (by omega) ?_
    exact hnx _ _ _ _ _ _ _ _ _ _ _ _ _ _ _ _ hlr
  · have hc : xIfa (xs (4 * K + 1)) (xs (4 * K + 2)) = 0 := (nI_eq hcb (by decide)).mp hz
    refine v_aload_n F dL_law_1408 3 rfl rfl ?_
    refine v_iconst (v := nI 0) F dL_law_1409 (by decide) ?_
    refine v_laldN F dL_law_1410 18 rfl 0 rfl (by decide) (by decide) (O1 0) rfl ?_
    refine v_iload F dL_law_1411 rfl ?_
    refine v_i2l F dL_law_1413 ?_
    refine v_lcmp F dL_law_1414 ?_
    have e1 : O1 0 = r2.toInt64 := (h0 hc).trans (congrArg Int32.toInt64 (hm.1 hc).1.symm)
    refine v_if_eq F 1420 dL_law_1415 (by decide) (fun _ => ?_) (fun hq => absurd (by rw [e1]; exact lg_self _) hq)
    refine v_goto F 1714 dL_law_1420 (by decide) ?_
    refine v_st (w' := wW ad ao am G L1 H1 P1 Tr1 Rg1 X1 D1 O1 N1 H2 X2 (xIfa (xs (4 * K + 1)) (xs (4 * K + 2))) Q1 K1 Lo1 Wi1) (pc' := 1714) (st' := []) rfl rfl rfl [2, 3, 4, 5, 6] (lv' := lwl ad ao am b (4 * K)) rfl ?_
    refine v_widen (k' := 30 + (K + 1)) (n' := 10000 + 6 * (K + 1)) (by omega) (by omega) ?_
    exact hnx _ _ _ _ _ _ _ _ _ _ _ _ _ _ _ _ hlr
theorem cs_RL_172 : CSV RL 172 RX8 yX8_highest cX8_highest 2 (some .int) 1 := ⟨wC_yX8_highest, wM_RL_172, wIm_yX8_highest, wSe_yX8_highest, wI_RX8, by decide +kernel, by decide⟩
set_option maxHeartbeats 1000000 in
set_option maxRecDepth 100000 in
theorem lc_22 (lau : Launch) (G : GT) {p : Program} {e : Env} {s : State} {m : MethodId} {args : Array Value} {below : List Frame} {meth : Method} {c : Code} {A : Nat → Prop} {Q : State → Prop} (F : FX p room_1 s m args c code RL 9 2000 G A) (hSF : SF s) (hSH : SH A s s.heap) (hNC : NC s) (hst : lau.stackTraces = false) {b L : Nat} {xs : Nat → Int32} (hX : va_X b L xs s s.heap) (hbl : b < s.heap.size) (hbA : ¬ A b) (hL : L ≤ 2048) (ad : Nat → Nat) (ao : Nat) (am : Nat → Nat) (T : Nat → Int32) (n mo ver : Nat) (S : Nat → Int32) (h : Nat) (P : PT) (Tr : TT) (Rg : RT) (co : Nat → Int32) (len : Nat) (Rd : DT) (O : Nat → Int64) (Tw i_ : Nat) (ft : Bool) (vl : Nat) (td : Nat → Int32) (tn : Nat) (ke sp Lo Wi : Nat → Int32) {K : Nat} (hK : 4 * K + 4 ≤ L) (I : LIV K T n mo ver S h P Tr Rg co len Rd) (hnx : NX lau p e s m args below meth c G A Q ad ao am b K) : V p lau e room_1 s m args below meth c 9 G A Q (wW ad ao am G (T, n, mo, ver) (S, h) P Tr Rg (co, len) Rd O (snp T n mo) (S, h) (co, len) Tw (i_, ft, vl, td, tn) (ke, sp) Lo Wi) (30 + K) (10000 + 6 * K) 1423 (lwl ad ao am b (4 * K)) [] := by
  have hkk : K < 512 := by omega
  obtain ⟨hk1, hk2⟩ := room_k hkk
  refine v_aload_n F dL_law_1423 1 rfl rfl ?_
  refine v_aload_n F dL_law_1424 0 rfl rfl ?_
  refine v_iload F dL_law_1425 rfl ?_
  refine v_iconst (v := nI 1) F dL_law_1427 (by decide) ?_
  refine v_iadd F dL_law_1428 ?_
  refine v_topi (nI (4 * K + 1)) (nI_add (4 * K) 1) ?_
  refine v_sld F hX hbl hbA (4 * K + 1) rfl (by omega) (by omega) dL_law_1429 ?_
  refine v_aload_n F dL_law_1430 3 rfl rfl ?_
  refine v_cH F hSF hSH hNC ch_highest dL_law_1431 [0, 1, 2, 3, 4, 5, 6, 7, 8, 9, 10, 11, 12, 13, 14, 15, 16, 17, 18] [19, 20, 21, 22, 23, 24, 25, 26, 27] (wc := wL ad ao G (T, n, mo, ver) (S, h) P Tr Rg (co, len) Rd O) (wr := wM am G (snp T n mo) (S, h) (co, len) Tw (i_, ft, vl, td, tn) (ke, sp) Lo Wi) rfl rfl rfl rfl rfl (by decide) (h_highest lau G ad ao T n mo ver S h P Tr Rg co len Rd O (xs (4 * K + 1)) K I hst) (by decide) rfl rfl (Nat.le_of_ble_eq_true rfl) ⟨by omega, by omega⟩ (fun r u hw => ?_)
  obtain ⟨L1, H1, P1, Tr1, Rg1, X1, D1, O1⟩ := u
  refine v_pick [9, 10, 11, 12, 13, 14, 15, 16, 17, 18, 19, 20, 21, 22, 23, 24, 25, 26, 27, 0, 1, 2, 3, 4, 5, 6, 7, 8] (w' := wL ad ao G L1 H1 P1 Tr1 Rg1 X1 D1 O1 ++ wM am G (snp T n mo) (S, h) (co, len) Tw (i_, ft, vl, td, tn) (ke, sp) Lo Wi) rfl rfl rfl ?_
  obtain ⟨hr1, hci, h0, eL, eH, eX, eD⟩ := hw
  refine v_topi (nI (xHi (xs (4 * K + 1)))) hr1 ?_
  refine v_istore (lv' := [(5, .int (nI (xHi (xs (4 * K + 1))))), (4, .int (nI (4 * K))), (3, .ref ao), (2, .ref (am 0)), (1, .ref (ad 0)), (0, .ref b)]) F dL_law_1434 (by decide) rfl ?_
  refine v_aload_n F dL_law_1436 2 rfl rfl ?_
  refine v_aload_n F dL_law_1437 0 rfl rfl ?_
  refine v_iload F dL_law_1438 rfl ?_
  refine v_iconst (v := nI 1) F dL_law_1440 (by decide) ?_
  refine v_iadd F dL_law_1441 ?_
  refine v_topi (nI (4 * K + 1)) (nI_add (4 * K) 1) ?_
  refine v_sld F hX hbl hbA (4 * K + 1) rfl (by omega) (by omega) dL_law_1442 ?_
  refine v_cVIS F cs_RL_172 dL_law_1443 19 (ci := 8) rfl rfl [19, 20, 21, 22, 23, 24, 25, 26, 27] [0, 1, 2, 3, 4, 5, 6, 7, 8, 9, 10, 11, 12, 13, 14, 15, 16, 17, 18] (wc := wM am G (snp T n mo) (S, h) (co, len) Tw (i_, ft, vl, td, tn) (ke, sp) Lo Wi) (wr := wL ad ao G L1 H1 P1 Tr1 Rg1 X1 D1 O1) rfl rfl rfl rfl rfl (by decide) (m_X8_highest lau G am T n mo (S, h) (co, len) Tw (i_, ft, vl, td, tn) (ke, sp) Lo Wi (xs (4 * K + 1)) I.1) (by decide) rfl rfl (Nat.le_of_ble_eq_true rfl) ⟨by omega, by omega⟩ (fun r2 u hm => ?_)
  obtain ⟨N1, H2, X2, Q1, K1, Lo1, Wi1⟩ := u
  refine v_w (w' := wW ad ao am G L1 H1 P1 Tr1 Rg1 X1 D1 O1 N1 H2 X2 (xHi (xs (4 * K + 1))) Q1 K1 Lo1 Wi1) rfl ?_
  refine v_istore (lv' := [(6, .int r2), (5, .int (nI (xHi (xs (4 * K + 1))))), (4, .int (nI (4 * K))), (3, .ref ao), (2, .ref (am 0)), (1, .ref (ad 0)), (0, .ref b)]) F dL_law_1446 (by decide) rfl ?_
  refine v_aload_n F dL_law_1448 2 rfl rfl ?_
  refine v_cVIS F cs_RL_98 dL_law_1449 19 (ci := 8) rfl rfl [19, 20, 21, 22, 23, 24, 25, 26, 27] [0, 1, 2, 3, 4, 5, 6, 7, 8, 9, 10, 11, 12, 13, 14, 15, 16, 17, 18] (wc := wM am G N1 H2 X2 (xHi (xs (4 * K + 1))) Q1 K1 Lo1 Wi1) (wr := wL ad ao G L1 H1 P1 Tr1 Rg1 X1 D1 O1) rfl rfl rfl rfl rfl (by decide) (m_X8_thrown lau G am N1 H2 X2 (xHi (xs (4 * K + 1))) Q1 K1 Lo1 Wi1) (by decide) rfl rfl (Nat.le_of_ble_eq_true rfl) ⟨by omega, by omega⟩ (fun r3 u3 hr3 => ?_)
  refine v_topi (nI (xHi (xs (4 * K + 1)))) hr3 ?_
  refine v_w (w' := wW ad ao am G L1 H1 P1 Tr1 Rg1 X1 D1 O1 N1 H2 X2 (xHi (xs (4 * K + 1))) Q1 K1 Lo1 Wi1) rfl ?_
  refine v_iload F dL_law_1452 rfl ?_
  refine v_icmp_eq F 1459 dL_law_1454 (by decide) (fun _ => ?_) (fun hq => absurd rfl hq)
  refine v_iload F dL_law_1459 rfl ?_
  have hcb : xHi (xs (4 * K + 1)) < 2 ^ 31 := by
    unfold xHi
    repeat' split
    all_goals decide
  have hlr : LR (K + 1) L1 H1 P1 Tr1 Rg1 X1 D1 N1 H2 X2 := by
    have eD : D1 = Rd := eD
    by_cases hc : xHi (xs (4 * K + 1)) = 0
    · obtain ⟨-, eN, eH2, eX2⟩ := hm.1 hc
      exact ⟨_, _, _, _, _, _, _, _, eL, eH, eX, eN, eH2, eX2, by rw [eD]; exact I.look hkk hci⟩
    · obtain ⟨eN, eH2, eX2⟩ := hm.2 hc
      exact ⟨_, _, _, _, _, _, _, _, eL, eH, eX, eN, eH2, eX2, by rw [eD]; exact I.look hkk hci⟩
  refine v_if_ne F 1476 dL_law_1461 (by decide) (fun _ => ?_) (fun hz => ?_)
  · refine v_goto F 1714 dL_law_1476 (by decide) ?_
    refine v_st (w' := wW ad ao am G L1 H1 P1 Tr1 Rg1 X1 D1 O1 N1 H2 X2 (xHi (xs (4 * K + 1))) Q1 K1 Lo1 Wi1) (pc' := 1714) (st' := []) rfl rfl rfl [2, 3, 4, 5, 6] (lv' := lwl ad ao am b (4 * K)) rfl ?_
    refine v_widen (k' := 30 + (K + 1)) (n' := 10000 + 6 * (K + 1)) (by omega) (by omega) ?_
    exact hnx _ _ _ _ _ _ _ _ _ _ _ _ _ _ _ _ hlr
  · have hc : xHi (xs (4 * K + 1)) = 0 := (nI_eq hcb (by decide)).mp hz
    refine v_aload_n F dL_law_1464 3 rfl rfl ?_
    refine v_iconst (v := nI 0) F dL_law_1465 (by decide) ?_
    refine v_laldN F dL_law_1466 18 rfl 0 rfl (by decide) (by decide) (O1 0) rfl ?_
    refine v_iload F dL_law_1467 rfl ?_
    refine v_i2l F dL_law_1469 ?_
    refine v_lcmp F dL_law_1470 ?_
    have e1 : O1 0 = r2.toInt64 := (h0 hc).trans (congrArg Int32.toInt64 (hm.1 hc).1.symm)
    refine v_if_eq F 1476 dL_law_1471 (by decide) (fun _ => ?_) (fun hq => absurd (by rw [e1]; exact lg_self _) hq)
    refine v_goto F 1714 dL_law_1476 (by decide) ?_
    refine v_st (w' := wW ad ao am G L1 H1 P1 Tr1 Rg1 X1 D1 O1 N1 H2 X2 (xHi (xs (4 * K + 1))) Q1 K1 Lo1 Wi1) (pc' := 1714) (st' := []) rfl rfl rfl [2, 3, 4, 5, 6] (lv' := lwl ad ao am b (4 * K)) rfl ?_
    refine v_widen (k' := 30 + (K + 1)) (n' := 10000 + 6 * (K + 1)) (by omega) (by omega) ?_
    exact hnx _ _ _ _ _ _ _ _ _ _ _ _ _ _ _ _ hlr
theorem cs_RL_175 : CSV RL 175 RX8 yX8_worth cX8_worth 2 (some .int) 1 := ⟨wC_yX8_worth, wM_RL_175, wIm_yX8_worth, wSe_yX8_worth, wI_RX8, by decide +kernel, by decide⟩
set_option maxHeartbeats 1000000 in
set_option maxRecDepth 100000 in
theorem lc_23 (lau : Launch) (G : GT) {p : Program} {e : Env} {s : State} {m : MethodId} {args : Array Value} {below : List Frame} {meth : Method} {c : Code} {A : Nat → Prop} {Q : State → Prop} (F : FX p room_1 s m args c code RL 9 2000 G A) (hSF : SF s) (hSH : SH A s s.heap) (hNC : NC s) (hst : lau.stackTraces = false) {b L : Nat} {xs : Nat → Int32} (hX : va_X b L xs s s.heap) (hbl : b < s.heap.size) (hbA : ¬ A b) (hL : L ≤ 2048) (ad : Nat → Nat) (ao : Nat) (am : Nat → Nat) (T : Nat → Int32) (n mo ver : Nat) (S : Nat → Int32) (h : Nat) (P : PT) (Tr : TT) (Rg : RT) (co : Nat → Int32) (len : Nat) (Rd : DT) (O : Nat → Int64) (Tw i_ : Nat) (ft : Bool) (vl : Nat) (td : Nat → Int32) (tn : Nat) (ke sp Lo Wi : Nat → Int32) {K : Nat} (hK : 4 * K + 4 ≤ L) (I : LIV K T n mo ver S h P Tr Rg co len Rd) (hnx : NX lau p e s m args below meth c G A Q ad ao am b K) : V p lau e room_1 s m args below meth c 9 G A Q (wW ad ao am G (T, n, mo, ver) (S, h) P Tr Rg (co, len) Rd O (snp T n mo) (S, h) (co, len) Tw (i_, ft, vl, td, tn) (ke, sp) Lo Wi) (30 + K) (10000 + 6 * K) 1479 (lwl ad ao am b (4 * K)) [] := by
  have hkk : K < 512 := by omega
  obtain ⟨hk1, hk2⟩ := room_k hkk
  refine v_aload_n F dL_law_1479 1 rfl rfl ?_
  refine v_aload_n F dL_law_1480 0 rfl rfl ?_
  refine v_iload F dL_law_1481 rfl ?_
  refine v_iconst (v := nI 1) F dL_law_1483 (by decide) ?_
  refine v_iadd F dL_law_1484 ?_
  refine v_topi (nI (4 * K + 1)) (nI_add (4 * K) 1) ?_
  refine v_sld F hX hbl hbA (4 * K + 1) rfl (by omega) (by omega) dL_law_1485 ?_
  refine v_aload_n F dL_law_1486 3 rfl rfl ?_
  refine v_cH F hSF hSH hNC ch_worth dL_law_1487 [0, 1, 2, 3, 4, 5, 6, 7, 8, 9, 10, 11, 12, 13, 14, 15, 16, 17, 18] [19, 20, 21, 22, 23, 24, 25, 26, 27] (wc := wL ad ao G (T, n, mo, ver) (S, h) P Tr Rg (co, len) Rd O) (wr := wM am G (snp T n mo) (S, h) (co, len) Tw (i_, ft, vl, td, tn) (ke, sp) Lo Wi) rfl rfl rfl rfl rfl (by decide) (h_worth lau G ad ao T n mo ver S h P Tr Rg co len Rd O (xs (4 * K + 1)) K I hst) (by decide) rfl rfl (Nat.le_of_ble_eq_true rfl) ⟨by omega, by omega⟩ (fun r u hw => ?_)
  obtain ⟨L1, H1, P1, Tr1, Rg1, X1, D1, O1⟩ := u
  refine v_pick [9, 10, 11, 12, 13, 14, 15, 16, 17, 18, 19, 20, 21, 22, 23, 24, 25, 26, 27, 0, 1, 2, 3, 4, 5, 6, 7, 8] (w' := wL ad ao G L1 H1 P1 Tr1 Rg1 X1 D1 O1 ++ wM am G (snp T n mo) (S, h) (co, len) Tw (i_, ft, vl, td, tn) (ke, sp) Lo Wi) rfl rfl rfl ?_
  obtain ⟨hr1, hci, h0, eL, eH, eX, eD⟩ := hw
  refine v_topi (nI (xWo n (xs (4 * K + 1)))) hr1 ?_
  refine v_istore (lv' := [(5, .int (nI (xWo n (xs (4 * K + 1))))), (4, .int (nI (4 * K))), (3, .ref ao), (2, .ref (am 0)), (1, .ref (ad 0)), (0, .ref b)]) F dL_law_1490 (by decide) rfl ?_
  refine v_aload_n F dL_law_1492 2 rfl rfl ?_
  refine v_aload_n F dL_law_1493 0 rfl rfl ?_
  refine v_iload F dL_law_1494 rfl ?_
  refine v_iconst (v := nI 1) F dL_law_1496 (by decide) ?_
  refine v_iadd F dL_law_1497 ?_
  refine v_topi (nI (4 * K + 1)) (nI_add (4 * K) 1) ?_
  refine v_sld F hX hbl hbA (4 * K + 1) rfl (by omega) (by omega) dL_law_1498 ?_
  refine v_cVIS F cs_RL_175 dL_law_1499 19 (ci := 8) rfl rfl [19, 20, 21, 22, 23, 24, 25, 26, 27] [0, 1, 2, 3, 4, 5, 6, 7, 8, 9, 10, 11, 12, 13, 14, 15, 16, 17, 18] (wc := wM am G (snp T n mo) (S, h) (co, len) Tw (i_, ft, vl, td, tn) (ke, sp) Lo Wi) (wr := wL ad ao G L1 H1 P1 Tr1 Rg1 X1 D1 O1) rfl rfl rfl rfl rfl (by decide) (m_X8_worth lau G am T n mo (S, h) (co, len) Tw (i_, ft, vl, td, tn) (ke, sp) Lo Wi (xs (4 * K + 1)) I.1) (by decide) rfl rfl (Nat.le_of_ble_eq_true rfl) ⟨by omega, by omega⟩ (fun r2 u hm => ?_)
  obtain ⟨N1, H2, X2, Q1, K1, Lo1, Wi1⟩ := u
  refine v_w (w' := wW ad ao am G L1 H1 P1 Tr1 Rg1 X1 D1 O1 N1 H2 X2 (xWo n (xs (4 * K + 1))) Q1 K1 Lo1 Wi1) rfl ?_
  refine v_istore (lv' := [(6, .int r2), (5, .int (nI (xWo n (xs (4 * K + 1))))), (4, .int (nI (4 * K))), (3, .ref ao), (2, .ref (am 0)), (1, .ref (ad 0)), (0, .ref b)]) F dL_law_1502 (by decide) rfl ?_
  refine v_aload_n F dL_law_1504 2 rfl rfl ?_
  refine v_cVIS F cs_RL_98 dL_law_1505 19 (ci := 8) rfl rfl [19, 20, 21, 22, 23, 24, 25, 26, 27] [0, 1, 2, 3, 4, 5, 6, 7, 8, 9, 10, 11, 12, 13, 14, 15, 16, 17, 18] (wc := wM am G N1 H2 X2 (xWo n (xs (4 * K + 1))) Q1 K1 Lo1 Wi1) (wr := wL ad ao G L1 H1 P1 Tr1 Rg1 X1 D1 O1) rfl rfl rfl rfl rfl (by decide) (m_X8_thrown lau G am N1 H2 X2 (xWo n (xs (4 * K + 1))) Q1 K1 Lo1 Wi1) (by decide) rfl rfl (Nat.le_of_ble_eq_true rfl) ⟨by omega, by omega⟩ (fun r3 u3 hr3 => ?_)
  refine v_topi (nI (xWo n (xs (4 * K + 1)))) hr3 ?_
  refine v_w (w' := wW ad ao am G L1 H1 P1 Tr1 Rg1 X1 D1 O1 N1 H2 X2 (xWo n (xs (4 * K + 1))) Q1 K1 Lo1 Wi1) rfl ?_
  refine v_iload F dL_law_1508 rfl ?_
  refine v_icmp_eq F 1515 dL_law_1510 (by decide) (fun _ => ?_) (fun hq => absurd rfl hq)
  refine v_iload F dL_law_1515 rfl ?_
  have hcb : xWo n (xs (4 * K + 1)) < 2 ^ 31 := by
    unfold xWo
    repeat' split
    all_goals decide
  have hlr : LR (K + 1) L1 H1 P1 Tr1 Rg1 X1 D1 N1 H2 X2 := by
    have eD : D1 = Rd := eD
    by_cases hc : xWo n (xs (4 * K + 1)) = 0
    · obtain ⟨-, eN, eH2, eX2⟩ := hm.1 hc
      exact ⟨_, _, _, _, _, _, _, _, eL, eH, eX, eN, eH2, eX2, by rw [eD]; exact I.look hkk hci⟩
    · obtain ⟨eN, eH2, eX2⟩ := hm.2 hc
      exact ⟨_, _, _, _, _, _, _, _, eL, eH, eX, eN, eH2, eX2, by rw [eD]; exact I.look hkk hci⟩
  refine v_if_ne F 1532 dL_law_1517 (by decide) (fun _ => ?_) (fun hz => ?_)
  · refine v_goto F 1714 dL_law_1532 (by decide) ?_
    refine v_st (w' := wW ad ao am G L1 H1 P1 Tr1 Rg1 X1 D1 O1 N1 H2 X2 (xWo n (xs (4 * K + 1))) Q1 K1 Lo1 Wi1) (pc' := 1714) (st' := []) rfl rfl rfl [2, 3, 4, 5, 6] (lv' := lwl ad ao am b (4 * K)) rfl ?_
    refine v_widen (k' := 30 + (K + 1)) (n' := 10000 + 6 * (K + 1)) (by omega) (by omega) ?_
    exact hnx _ _ _ _ _ _ _ _ _ _ _ _ _ _ _ _ hlr
  · have hc : xWo n (xs (4 * K + 1)) = 0 := (nI_eq hcb (by decide)).mp hz
    refine v_aload_n F dL_law_1520 3 rfl rfl ?_
    refine v_iconst (v := nI 0) F dL_law_1521 (by decide) ?_
    refine v_laldN F dL_law_1522 18 rfl 0 rfl (by decide) (by decide) (O1 0) rfl ?_
    refine v_iload F dL_law_1523 rfl ?_
    refine v_i2l F dL_law_1525 ?_
    refine v_lcmp F dL_law_1526 ?_
    have e1 : O1 0 = r2.toInt64 := (h0 hc).trans (congrArg Int32.toInt64 (hm.1 hc).1.symm)
    refine v_if_eq F 1532 dL_law_1527 (by decide) (fun _ => ?_) (fun hq => absurd (by rw [e1]; exact lg_self _) hq)
    refine v_goto F 1714 dL_law_1532 (by decide) ?_
    refine v_st (w' := wW ad ao am G L1 H1 P1 Tr1 Rg1 X1 D1 O1 N1 H2 X2 (xWo n (xs (4 * K + 1))) Q1 K1 Lo1 Wi1) (pc' := 1714) (st' := []) rfl rfl rfl [2, 3, 4, 5, 6] (lv' := lwl ad ao am b (4 * K)) rfl ?_
    refine v_widen (k' := 30 + (K + 1)) (n' := 10000 + 6 * (K + 1)) (by omega) (by omega) ?_
    exact hnx _ _ _ _ _ _ _ _ _ _ _ _ _ _ _ _ hlr
theorem cs_RL_178 : CSV RL 178 RX8 yX8_changesAt cX8_changesAt 2 (some .int) 1 := ⟨wC_yX8_changesAt, wM_RL_178, wIm_yX8_changesAt, wSe_yX8_changesAt, wI_RX8, by decide +kernel, by decide⟩
set_option maxHeartbeats 1000000 in
set_option maxRecDepth 100000 in
theorem lc_24 (lau : Launch) (G : GT) {p : Program} {e : Env} {s : State} {m : MethodId} {args : Array Value} {below : List Frame} {meth : Method} {c : Code} {A : Nat → Prop} {Q : State → Prop} (F : FX p room_1 s m args c code RL 9 2000 G A) (hSF : SF s) (hSH : SH A s s.heap) (hNC : NC s) (hst : lau.stackTraces = false) {b L : Nat} {xs : Nat → Int32} (hX : va_X b L xs s s.heap) (hbl : b < s.heap.size) (hbA : ¬ A b) (hL : L ≤ 2048) (ad : Nat → Nat) (ao : Nat) (am : Nat → Nat) (T : Nat → Int32) (n mo ver : Nat) (S : Nat → Int32) (h : Nat) (P : PT) (Tr : TT) (Rg : RT) (co : Nat → Int32) (len : Nat) (Rd : DT) (O : Nat → Int64) (Tw i_ : Nat) (ft : Bool) (vl : Nat) (td : Nat → Int32) (tn : Nat) (ke sp Lo Wi : Nat → Int32) {K : Nat} (hK : 4 * K + 4 ≤ L) (I : LIV K T n mo ver S h P Tr Rg co len Rd) (hnx : NX lau p e s m args below meth c G A Q ad ao am b K) : V p lau e room_1 s m args below meth c 9 G A Q (wW ad ao am G (T, n, mo, ver) (S, h) P Tr Rg (co, len) Rd O (snp T n mo) (S, h) (co, len) Tw (i_, ft, vl, td, tn) (ke, sp) Lo Wi) (30 + K) (10000 + 6 * K) 1535 (lwl ad ao am b (4 * K)) [] := by
  have hkk : K < 512 := by omega
  obtain ⟨hk1, hk2⟩ := room_k hkk
  refine v_aload_n F dL_law_1535 1 rfl rfl ?_
  refine v_aload_n F dL_law_1536 0 rfl rfl ?_
  refine v_iload F dL_law_1537 rfl ?_
  refine v_iconst (v := nI 1) F dL_law_1539 (by decide) ?_
  refine v_iadd F dL_law_1540 ?_
  refine v_topi (nI (4 * K + 1)) (nI_add (4 * K) 1) ?_
  refine v_sld F hX hbl hbA (4 * K + 1) rfl (by omega) (by omega) dL_law_1541 ?_
  refine v_aload_n F dL_law_1542 3 rfl rfl ?_
  refine v_cH F hSF hSH hNC ch_changesAt dL_law_1543 [0, 1, 2, 3, 4, 5, 6, 7, 8, 9, 10, 11, 12, 13, 14, 15, 16, 17, 18] [19, 20, 21, 22, 23, 24, 25, 26, 27] (wc := wL ad ao G (T, n, mo, ver) (S, h) P Tr Rg (co, len) Rd O) (wr := wM am G (snp T n mo) (S, h) (co, len) Tw (i_, ft, vl, td, tn) (ke, sp) Lo Wi) rfl rfl rfl rfl rfl (by decide) (h_changesAt lau G ad ao T n mo ver S h P Tr Rg co len Rd O (xs (4 * K + 1)) K I hst) (by decide) rfl rfl (Nat.le_of_ble_eq_true rfl) ⟨by omega, by omega⟩ (fun r u hw => ?_)
  obtain ⟨L1, H1, P1, Tr1, Rg1, X1, D1, O1⟩ := u
  refine v_pick [9, 10, 11, 12, 13, 14, 15, 16, 17, 18, 19, 20, 21, 22, 23, 24, 25, 26, 27, 0, 1, 2, 3, 4, 5, 6, 7, 8] (w' := wL ad ao G L1 H1 P1 Tr1 Rg1 X1 D1 O1 ++ wM am G (snp T n mo) (S, h) (co, len) Tw (i_, ft, vl, td, tn) (ke, sp) Lo Wi) rfl rfl rfl ?_
  obtain ⟨hr1, hci, h0, eL, eH, eX, eD⟩ := hw
  refine v_topi (nI (xCh (xs (4 * K + 1)))) hr1 ?_
  refine v_istore (lv' := [(5, .int (nI (xCh (xs (4 * K + 1))))), (4, .int (nI (4 * K))), (3, .ref ao), (2, .ref (am 0)), (1, .ref (ad 0)), (0, .ref b)]) F dL_law_1546 (by decide) rfl ?_
  refine v_aload_n F dL_law_1548 2 rfl rfl ?_
  refine v_aload_n F dL_law_1549 0 rfl rfl ?_
  refine v_iload F dL_law_1550 rfl ?_
  refine v_iconst (v := nI 1) F dL_law_1552 (by decide) ?_
  refine v_iadd F dL_law_1553 ?_
  refine v_topi (nI (4 * K + 1)) (nI_add (4 * K) 1) ?_
  refine v_sld F hX hbl hbA (4 * K + 1) rfl (by omega) (by omega) dL_law_1554 ?_
  refine v_cVIS F cs_RL_178 dL_law_1555 19 (ci := 8) rfl rfl [19, 20, 21, 22, 23, 24, 25, 26, 27] [0, 1, 2, 3, 4, 5, 6, 7, 8, 9, 10, 11, 12, 13, 14, 15, 16, 17, 18] (wc := wM am G (snp T n mo) (S, h) (co, len) Tw (i_, ft, vl, td, tn) (ke, sp) Lo Wi) (wr := wL ad ao G L1 H1 P1 Tr1 Rg1 X1 D1 O1) rfl rfl rfl rfl rfl (by decide) (m_X8_changesAt lau G am T n mo (S, h) (co, len) Tw (i_, ft, vl, td, tn) (ke, sp) Lo Wi (xs (4 * K + 1)) I.1 I.2.1) (by decide) rfl rfl (Nat.le_of_ble_eq_true rfl) ⟨by omega, by omega⟩ (fun r2 u hm => ?_)
  obtain ⟨N1, H2, X2, Q1, K1, Lo1, Wi1⟩ := u
  refine v_w (w' := wW ad ao am G L1 H1 P1 Tr1 Rg1 X1 D1 O1 N1 H2 X2 (xCh (xs (4 * K + 1))) Q1 K1 Lo1 Wi1) rfl ?_
  refine v_istore (lv' := [(6, .int r2), (5, .int (nI (xCh (xs (4 * K + 1))))), (4, .int (nI (4 * K))), (3, .ref ao), (2, .ref (am 0)), (1, .ref (ad 0)), (0, .ref b)]) F dL_law_1558 (by decide) rfl ?_
  refine v_aload_n F dL_law_1560 2 rfl rfl ?_
  refine v_cVIS F cs_RL_98 dL_law_1561 19 (ci := 8) rfl rfl [19, 20, 21, 22, 23, 24, 25, 26, 27] [0, 1, 2, 3, 4, 5, 6, 7, 8, 9, 10, 11, 12, 13, 14, 15, 16, 17, 18] (wc := wM am G N1 H2 X2 (xCh (xs (4 * K + 1))) Q1 K1 Lo1 Wi1) (wr := wL ad ao G L1 H1 P1 Tr1 Rg1 X1 D1 O1) rfl rfl rfl rfl rfl (by decide) (m_X8_thrown lau G am N1 H2 X2 (xCh (xs (4 * K + 1))) Q1 K1 Lo1 Wi1) (by decide) rfl rfl (Nat.le_of_ble_eq_true rfl) ⟨by omega, by omega⟩ (fun r3 u3 hr3 => ?_)
  refine v_topi (nI (xCh (xs (4 * K + 1)))) hr3 ?_
  refine v_w (w' := wW ad ao am G L1 H1 P1 Tr1 Rg1 X1 D1 O1 N1 H2 X2 (xCh (xs (4 * K + 1))) Q1 K1 Lo1 Wi1) rfl ?_
  refine v_iload F dL_law_1564 rfl ?_
  refine v_icmp_eq F 1571 dL_law_1566 (by decide) (fun _ => ?_) (fun hq => absurd rfl hq)
  refine v_iload F dL_law_1571 rfl ?_
  have hcb : xCh (xs (4 * K + 1)) < 2 ^ 31 := by
    unfold xCh
    repeat' split
    all_goals decide
  have hlr : LR (K + 1) L1 H1 P1 Tr1 Rg1 X1 D1 N1 H2 X2 := by
    have eD : D1 = Rd := eD
    by_cases hc : xCh (xs (4 * K + 1)) = 0
    · obtain ⟨-, eN, eH2, eX2⟩ := hm.1 hc
      exact ⟨_, _, _, _, _, _, _, _, eL, eH, eX, eN, eH2, eX2, by rw [eD]; exact I.look hkk hci⟩
    · obtain ⟨eN, eH2, eX2⟩ := hm.2 hc
      exact ⟨_, _, _, _, _, _, _, _, eL, eH, eX, eN, eH2, eX2, by rw [eD]; exact I.look hkk hci⟩
  refine v_if_ne F 1588 dL_law_1573 (by decide) (fun _ => ?_) (fun hz => ?_)
  · refine v_goto F 1714 dL_law_1588 (by decide) ?_
    refine v_st (w' := wW ad ao am G L1 H1 P1 Tr1 Rg1 X1 D1 O1 N1 H2 X2 (xCh (xs (4 * K + 1))) Q1 K1 Lo1 Wi1) (pc' := 1714) (st' := []) rfl rfl rfl [2, 3, 4, 5, 6] (lv' := lwl ad ao am b (4 * K)) rfl ?_
    refine v_widen (k' := 30 + (K + 1)) (n' := 10000 + 6 * (K + 1)) (by omega) (by omega) ?_
    exact hnx _ _ _ _ _ _ _ _ _ _ _ _ _ _ _ _ hlr
  · have hc : xCh (xs (4 * K + 1)) = 0 := (nI_eq hcb (by decide)).mp hz
    refine v_aload_n F dL_law_1576 3 rfl rfl ?_
    refine v_iconst (v := nI 0) F dL_law_1577 (by decide) ?_
    refine v_laldN F dL_law_1578 18 rfl 0 rfl (by decide) (by decide) (O1 0) rfl ?_
    refine v_iload F dL_law_1579 rfl ?_
    refine v_i2l F dL_law_1581 ?_
    refine v_lcmp F dL_law_1582 ?_
    have e1 : O1 0 = r2.toInt64 := (h0 hc).trans (congrArg Int32.toInt64 (hm.1 hc).1.symm)
    refine v_if_eq F 1588 dL_law_1583 (by decide) (fun _ => ?_) (fun hq => absurd (by rw [e1]; exact lg_self _) hq)
    refine v_goto F 1714 dL_law_1588 (by decide) ?_
    refine v_st (w' := wW ad ao am G L1 H1 P1 Tr1 Rg1 X1 D1 O1 N1 H2 X2 (xCh (xs (4 * K + 1))) Q1 K1 Lo1 Wi1) (pc' := 1714) (st' := []) rfl rfl rfl [2, 3, 4, 5, 6] (lv' := lwl ad ao am b (4 * K)) rfl ?_
    refine v_widen (k' := 30 + (K + 1)) (n' := 10000 + 6 * (K + 1)) (by omega) (by omega) ?_
    exact hnx _ _ _ _ _ _ _ _ _ _ _ _ _ _ _ _ hlr
theorem cs_RL_181 : CSV RL 181 RX8 yX8_meet cX8_meet 3 (some .int) 2 := ⟨wC_yX8_meet, wM_RL_181, wIm_yX8_meet, wSe_yX8_meet, wI_RX8, by decide +kernel, by decide⟩
set_option maxHeartbeats 1000000 in
set_option maxRecDepth 100000 in
theorem lc_25 (lau : Launch) (G : GT) {p : Program} {e : Env} {s : State} {m : MethodId} {args : Array Value} {below : List Frame} {meth : Method} {c : Code} {A : Nat → Prop} {Q : State → Prop} (F : FX p room_1 s m args c code RL 9 2000 G A) (hSF : SF s) (hSH : SH A s s.heap) (hNC : NC s) (hst : lau.stackTraces = false) {b L : Nat} {xs : Nat → Int32} (hX : va_X b L xs s s.heap) (hbl : b < s.heap.size) (hbA : ¬ A b) (hL : L ≤ 2048) (ad : Nat → Nat) (ao : Nat) (am : Nat → Nat) (T : Nat → Int32) (n mo ver : Nat) (S : Nat → Int32) (h : Nat) (P : PT) (Tr : TT) (Rg : RT) (co : Nat → Int32) (len : Nat) (Rd : DT) (O : Nat → Int64) (Tw i_ : Nat) (ft : Bool) (vl : Nat) (td : Nat → Int32) (tn : Nat) (ke sp Lo Wi : Nat → Int32) {K : Nat} (hK : 4 * K + 4 ≤ L) (I : LIV K T n mo ver S h P Tr Rg co len Rd) (hnx : NX lau p e s m args below meth c G A Q ad ao am b K) : V p lau e room_1 s m args below meth c 9 G A Q (wW ad ao am G (T, n, mo, ver) (S, h) P Tr Rg (co, len) Rd O (snp T n mo) (S, h) (co, len) Tw (i_, ft, vl, td, tn) (ke, sp) Lo Wi) (30 + K) (10000 + 6 * K) 1591 (lwl ad ao am b (4 * K)) [] := by
  have hkk : K < 512 := by omega
  obtain ⟨hk1, hk2⟩ := room_k hkk
  refine v_aload_n F dL_law_1591 1 rfl rfl ?_
  refine v_aload_n F dL_law_1592 0 rfl rfl ?_
  refine v_iload F dL_law_1593 rfl ?_
  refine v_iconst (v := nI 1) F dL_law_1595 (by decide) ?_
  refine v_iadd F dL_law_1596 ?_
  refine v_topi (nI (4 * K + 1)) (nI_add (4 * K) 1) ?_
  refine v_sld F hX hbl hbA (4 * K + 1) rfl (by omega) (by omega) dL_law_1597 ?_
  refine v_aload_n F dL_law_1598 0 rfl rfl ?_
  refine v_iload F dL_law_1599 rfl ?_
  refine v_iconst (v := nI 2) F dL_law_1601 (by decide) ?_
  refine v_iadd F dL_law_1602 ?_
  refine v_topi (nI (4 * K + 2)) (nI_add (4 * K) 2) ?_
  refine v_sld F hX hbl hbA (4 * K + 2) rfl (by omega) (by omega) dL_law_1603 ?_
  refine v_aload_n F dL_law_1604 3 rfl rfl ?_
  refine v_cH F hSF hSH hNC ch_meet dL_law_1605 [0, 1, 2, 3, 4, 5, 6, 7, 8, 9, 10, 11, 12, 13, 14, 15, 16, 17, 18] [19, 20, 21, 22, 23, 24, 25, 26, 27] (wc := wL ad ao G (T, n, mo, ver) (S, h) P Tr Rg (co, len) Rd O) (wr := wM am G (snp T n mo) (S, h) (co, len) Tw (i_, ft, vl, td, tn) (ke, sp) Lo Wi) rfl rfl rfl rfl rfl (by decide) (h_meet lau G ad ao T n mo ver S h P Tr Rg co len Rd O (xs (4 * K + 1)) (xs (4 * K + 2)) K I hst) (by decide) rfl rfl (Nat.le_of_ble_eq_true rfl) ⟨by omega, by omega⟩ (fun r u hw => ?_)
  obtain ⟨L1, H1, P1, Tr1, Rg1, X1, D1, O1⟩ := u
  refine v_pick [9, 10, 11, 12, 13, 14, 15, 16, 17, 18, 19, 20, 21, 22, 23, 24, 25, 26, 27, 0, 1, 2, 3, 4, 5, 6, 7, 8] (w' := wL ad ao G L1 H1 P1 Tr1 Rg1 X1 D1 O1 ++ wM am G (snp T n mo) (S, h) (co, len) Tw (i_, ft, vl, td, tn) (ke, sp) Lo Wi) rfl rfl rfl ?_
  obtain ⟨hr1, hci, h0, eL, eH, eX, eD⟩ := hw
  refine v_topi (nI (xMe n (xs (4 * K + 1)) (xs (4 * K + 2)))) hr1 ?_
  refine v_istore (lv' := [(5, .int (nI (xMe n (xs (4 * K + 1)) (xs (4 * K + 2))))), (4, .int (nI (4 * K))), (3, .ref ao), (2, .ref (am 0)), (1, .ref (ad 0)), (0, .ref b)]) F dL_law_1608 (by decide) rfl ?_
  refine v_aload_n F dL_law_1610 2 rfl rfl ?_
  refine v_aload_n F dL_law_1611 0 rfl rfl ?_
  refine v_iload F dL_law_1612 rfl ?_
  refine v_iconst (v := nI 1) F dL_law_1614 (by decide) ?_
  refine v_iadd F dL_law_1615 ?_
  refine v_topi (nI (4 * K + 1)) (nI_add (4 * K) 1) ?_
  refine v_sld F hX hbl hbA (4 * K + 1) rfl (by omega) (by omega) dL_law_1616 ?_
  refine v_aload_n F dL_law_1617 0 rfl rfl ?_
  refine v_iload F dL_law_1618 rfl ?_
  refine v_iconst (v := nI 2) F dL_law_1620 (by decide) ?_
  refine v_iadd F dL_law_1621 ?_
  refine v_topi (nI (4 * K + 2)) (nI_add (4 * K) 2) ?_
  refine v_sld F hX hbl hbA (4 * K + 2) rfl (by omega) (by omega) dL_law_1622 ?_
  refine v_cVIS F cs_RL_181 dL_law_1623 19 (ci := 8) rfl rfl [19, 20, 21, 22, 23, 24, 25, 26, 27] [0, 1, 2, 3, 4, 5, 6, 7, 8, 9, 10, 11, 12, 13, 14, 15, 16, 17, 18] (wc := wM am G (snp T n mo) (S, h) (co, len) Tw (i_, ft, vl, td, tn) (ke, sp) Lo Wi) (wr := wL ad ao G L1 H1 P1 Tr1 Rg1 X1 D1 O1) rfl rfl rfl rfl rfl (by decide) (m_X8_meet lau G am T n mo (S, h) (co, len) Tw (i_, ft, vl, td, tn) (ke, sp) Lo Wi (xs (4 * K + 1)) (xs (4 * K + 2)) I.1) (by decide) rfl rfl (Nat.le_of_ble_eq_true rfl) ⟨by omega, by omega⟩ (fun r2 u hm => ?_)
  obtain ⟨N1, H2, X2, Q1, K1, Lo1, Wi1⟩ := u
  refine v_w (w' := wW ad ao am G L1 H1 P1 Tr1 Rg1 X1 D1 O1 N1 H2 X2 (xMe n (xs (4 * K + 1)) (xs (4 * K + 2))) Q1 K1 Lo1 Wi1) rfl ?_
  refine v_istore (lv' := [(6, .int r2), (5, .int (nI (xMe n (xs (4 * K + 1)) (xs (4 * K + 2))))), (4, .int (nI (4 * K))), (3, .ref ao), (2, .ref (am 0)), (1, .ref (ad 0)), (0, .ref b)]) F dL_law_1626 (by decide) rfl ?_
  refine v_aload_n F dL_law_1628 2 rfl rfl ?_
  refine v_cVIS F cs_RL_98 dL_law_1629 19 (ci := 8) rfl rfl [19, 20, 21, 22, 23, 24, 25, 26, 27] [0, 1, 2, 3, 4, 5, 6, 7, 8, 9, 10, 11, 12, 13, 14, 15, 16, 17, 18] (wc := wM am G N1 H2 X2 (xMe n (xs (4 * K + 1)) (xs (4 * K + 2))) Q1 K1 Lo1 Wi1) (wr := wL ad ao G L1 H1 P1 Tr1 Rg1 X1 D1 O1) rfl rfl rfl rfl rfl (by decide) (m_X8_thrown lau G am N1 H2 X2 (xMe n (xs (4 * K + 1)) (xs (4 * K + 2))) Q1 K1 Lo1 Wi1) (by decide) rfl rfl (Nat.le_of_ble_eq_true rfl) ⟨by omega, by omega⟩ (fun r3 u3 hr3 => ?_)
  refine v_topi (nI (xMe n (xs (4 * K + 1)) (xs (4 * K + 2)))) hr3 ?_
  refine v_w (w' := wW ad ao am G L1 H1 P1 Tr1 Rg1 X1 D1 O1 N1 H2 X2 (xMe n (xs (4 * K + 1)) (xs (4 * K + 2))) Q1 K1 Lo1 Wi1) rfl ?_
  refine v_iload F dL_law_1632 rfl ?_
  refine v_icmp_eq F 1639 dL_law_1634 (by decide) (fun _ => ?_) (fun hq => absurd rfl hq)
  refine v_iload F dL_law_1639 rfl ?_
  have hcb : xMe n (xs (4 * K + 1)) (xs (4 * K + 2)) < 2 ^ 31 := by
    unfold xMe
    repeat' split
    all_goals decide
  have hlr : LR (K + 1) L1 H1 P1 Tr1 Rg1 X1 D1 N1 H2 X2 := by
    have eD : D1 = Rd := eD
    by_cases hc : xMe n (xs (4 * K + 1)) (xs (4 * K + 2)) = 0
    · obtain ⟨-, eN, eH2, eX2⟩ := hm.1 hc
      exact ⟨_, _, _, _, _, _, _, _, eL, eH, eX, eN, eH2, eX2, by rw [eD]; exact I.look hkk hci⟩
    · obtain ⟨eN, eH2, eX2⟩ := hm.2 hc
      exact ⟨_, _, _, _, _, _, _, _, eL, eH, eX, eN, eH2, eX2, by rw [eD]; exact I.look hkk hci⟩
  refine v_if_ne F 1656 dL_law_1641 (by decide) (fun _ => ?_) (fun hz => ?_)
  · refine v_goto F 1714 dL_law_1656 (by decide) ?_
    refine v_st (w' := wW ad ao am G L1 H1 P1 Tr1 Rg1 X1 D1 O1 N1 H2 X2 (xMe n (xs (4 * K + 1)) (xs (4 * K + 2))) Q1 K1 Lo1 Wi1) (pc' := 1714) (st' := []) rfl rfl rfl [2, 3, 4, 5, 6] (lv' := lwl ad ao am b (4 * K)) rfl ?_
    refine v_widen (k' := 30 + (K + 1)) (n' := 10000 + 6 * (K + 1)) (by omega) (by omega) ?_
    exact hnx _ _ _ _ _ _ _ _ _ _ _ _ _ _ _ _ hlr
  · have hc : xMe n (xs (4 * K + 1)) (xs (4 * K + 2)) = 0 := (nI_eq hcb (by decide)).mp hz
    refine v_aload_n F dL_law_1644 3 rfl rfl ?_
    refine v_iconst (v := nI 0) F dL_law_1645 (by decide) ?_
    refine v_laldN F dL_law_1646 18 rfl 0 rfl (by decide) (by decide) (O1 0) rfl ?_
    refine v_iload F dL_law_1647 rfl ?_
    refine v_i2l F dL_law_1649 ?_
    refine v_lcmp F dL_law_1650 ?_
    have e1 : O1 0 = r2.toInt64 := (h0 hc).trans (congrArg Int32.toInt64 (hm.1 hc).1.symm)
    refine v_if_eq F 1656 dL_law_1651 (by decide) (fun _ => ?_) (fun hq => absurd (by rw [e1]; exact lg_self _) hq)
    refine v_goto F 1714 dL_law_1656 (by decide) ?_
    refine v_st (w' := wW ad ao am G L1 H1 P1 Tr1 Rg1 X1 D1 O1 N1 H2 X2 (xMe n (xs (4 * K + 1)) (xs (4 * K + 2))) Q1 K1 Lo1 Wi1) (pc' := 1714) (st' := []) rfl rfl rfl [2, 3, 4, 5, 6] (lv' := lwl ad ao am b (4 * K)) rfl ?_
    refine v_widen (k' := 30 + (K + 1)) (n' := 10000 + 6 * (K + 1)) (by omega) (by omega) ?_
    exact hnx _ _ _ _ _ _ _ _ _ _ _ _ _ _ _ _ hlr
theorem cs_RL_182 : CSV RL 182 RX7 yX7_mean cX7_mean 2 (some .double) 0 := ⟨wC_yX7_mean, wM_RL_182, wIm_yX7_mean, wSe_yX7_mean, wI_RX7, by decide +kernel, by decide⟩
theorem cs_RL_186 : CSV RL 186 RX8 yX8_mean cX8_mean 1 (some .double) 0 := ⟨wC_yX8_mean, wM_RL_186, wIm_yX8_mean, wSe_yX8_mean, wI_RX8, by decide +kernel, by decide⟩
set_option maxHeartbeats 1000000 in
set_option maxRecDepth 100000 in
theorem lc_26 (lau : Launch) (G : GT) {p : Program} {e : Env} {s : State} {m : MethodId} {args : Array Value} {below : List Frame} {meth : Method} {c : Code} {A : Nat → Prop} {Q : State → Prop} (F : FX p room_1 s m args c code RL 9 2000 G A) (hSF : SF s) (hSH : SH A s s.heap) (hNC : NC s) (hst : lau.stackTraces = false) {b L : Nat} {xs : Nat → Int32} (hX : va_X b L xs s s.heap) (hbl : b < s.heap.size) (hbA : ¬ A b) (hL : L ≤ 2048) (ad : Nat → Nat) (ao : Nat) (am : Nat → Nat) (T : Nat → Int32) (n mo ver : Nat) (S : Nat → Int32) (h : Nat) (P : PT) (Tr : TT) (Rg : RT) (co : Nat → Int32) (len : Nat) (Rd : DT) (O : Nat → Int64) (Tw i_ : Nat) (ft : Bool) (vl : Nat) (td : Nat → Int32) (tn : Nat) (ke sp Lo Wi : Nat → Int32) {K : Nat} (hK : 4 * K + 4 ≤ L) (I : LIV K T n mo ver S h P Tr Rg co len Rd) (hnx : NX lau p e s m args below meth c G A Q ad ao am b K) : V p lau e room_1 s m args below meth c 9 G A Q (wW ad ao am G (T, n, mo, ver) (S, h) P Tr Rg (co, len) Rd O (snp T n mo) (S, h) (co, len) Tw (i_, ft, vl, td, tn) (ke, sp) Lo Wi) (30 + K) (10000 + 6 * K) 1659 (lwl ad ao am b (4 * K)) [] := by
  have hkk : K < 512 := by omega
  obtain ⟨hk1, hk2⟩ := room_k hkk
  refine v_aload_n F dL_law_1659 1 rfl rfl ?_
  refine v_cVDS F cs_RL_182 dL_law_1660 0 (ci := 7) rfl rfl [0, 1, 2, 3, 4, 5, 6, 7, 8, 9, 10, 11, 12, 13, 14, 15, 16, 17] [18, 19, 20, 21, 22, 23, 24, 25, 26, 27] (wc := wC ad G (T, n, mo, ver) (S, h) P Tr Rg (co, len) Rd) (wr := (ao, .inl (G.2.2.2, 1, .inr (.inl O))) :: wM am G (snp T n mo) (S, h) (co, len) Tw (i_, ft, vl, td, tn) (ke, sp) Lo Wi) rfl rfl rfl rfl rfl (by decide) (m_X7_mean lau G ad T n mo ver S h P Tr Rg (co, len) Rd I.1 I.2.2.1 I.2.2.2.2.2.2.2.1.1 I.2.2.2.2.2.2.2.1.2.1 I.2.2.2.2.2.2.2.1.2.2) (by decide) rfl rfl (Nat.le_of_ble_eq_true rfl) ⟨by omega, by omega⟩ (fun r1 u hw => ?_)
  obtain ⟨P1, Tr1, Rg1⟩ := u
  obtain ⟨hv1, hci⟩ := hw
  refine v_pick [10, 11, 12, 13, 14, 15, 16, 17, 18, 19, 20, 21, 22, 23, 24, 25, 26, 27, 0, 1, 2, 3, 4, 5, 6, 7, 8, 9] (w' := wL ad ao G (T, n, mo, ver) (S, h) P1 Tr1 Rg1 (co, len) Rd O ++ wM am G (snp T n mo) (S, h) (co, len) Tw (i_, ft, vl, td, tn) (ke, sp) Lo Wi) rfl rfl rfl ?_
  refine v_dstore (lv' := [(5, .double r1), (4, .int (nI (4 * K))), (3, .ref ao), (2, .ref (am 0)), (1, .ref (ad 0)), (0, .ref b)]) F dL_law_1663 (by decide) rfl ?_
  refine v_aload_n F dL_law_1665 2 rfl rfl ?_
  refine v_cVDS F cs_RL_186 dL_law_1666 19 (ci := 8) rfl rfl [19, 20, 21, 22, 23, 24, 25, 26, 27] [0, 1, 2, 3, 4, 5, 6, 7, 8, 9, 10, 11, 12, 13, 14, 15, 16, 17, 18] (wc := wM am G (snp T n mo) (S, h) (co, len) Tw (i_, ft, vl, td, tn) (ke, sp) Lo Wi) (wr := wL ad ao G (T, n, mo, ver) (S, h) P1 Tr1 Rg1 (co, len) Rd O) rfl rfl rfl rfl rfl (by decide) (m_X8_mean lau G am T n mo (S, h) (co, len) Tw (i_, ft, vl, td, tn) (ke, sp) Lo Wi I.1) (by decide) rfl rfl (Nat.le_of_ble_eq_true rfl) ⟨by omega, by omega⟩ (fun r2 u2 hm => ?_)
  obtain ⟨N1, H2, X2, Q1, K1, Lo1, Wi1⟩ := u2
  refine v_w (w' := wW ad ao am G (T, n, mo, ver) (S, h) P1 Tr1 Rg1 (co, len) Rd O N1 H2 X2 0 Q1 K1 Lo1 Wi1) rfl ?_
  obtain ⟨hv2, eN, eH2, eX2⟩ := hm.1 rfl
  refine v_dstore (lv' := [(7, .double r2), (5, .double r1), (4, .int (nI (4 * K))), (3, .ref ao), (2, .ref (am 0)), (1, .ref (ad 0)), (0, .ref b)]) F dL_law_1669 (by decide) rfl ?_
  refine v_dload F dL_law_1671 rfl ?_
  refine v_dload F dL_law_1673 rfl ?_
  refine v_dcmp F dL_law_1675 ?_
  have e1 : Op.cmpValue (FP.dcmp r1 r2) .l = 0 := by rw [hv1, hv2]; exact nzD_cmp (mean_nz T n mo)
  refine v_if_eq F 1697 dL_law_1676 (by decide) (fun _ => ?_) (fun hq => absurd e1 hq)
  refine v_goto F 1714 dL_law_1697 (by decide) ?_
  refine v_st (w' := wW ad ao am G (T, n, mo, ver) (S, h) P1 Tr1 Rg1 (co, len) Rd O N1 H2 X2 0 Q1 K1 Lo1 Wi1) (pc' := 1714) (st' := []) rfl rfl rfl [2, 3, 4, 5, 6] (lv' := lwl ad ao am b (4 * K)) rfl ?_
  refine v_widen (k' := 30 + (K + 1)) (n' := 10000 + 6 * (K + 1)) (by omega) (by omega) ?_
  exact hnx _ _ _ _ _ _ _ _ _ _ _ _ _ _ _ _ ⟨_, _, _, _, _, _, _, _, rfl, rfl, rfl, eN, eH2, eX2, I.look hkk hci⟩
theorem cs_RL_187 : CSV RL 187 RX7 yX7_digest cX7_digest 4 (some .long) 0 := ⟨wC_yX7_digest, wM_RL_187, wIm_yX7_digest, wSe_yX7_digest, wI_RX7, by decide +kernel, by decide⟩
theorem cs_RL_191 : CSV RL 191 RX8 yX8_digest cX8_digest 6 (some .long) 0 := ⟨wC_yX8_digest, wM_RL_191, wIm_yX8_digest, wSe_yX8_digest, wI_RX8, by decide +kernel, by decide⟩
set_option maxHeartbeats 1000000 in
set_option maxRecDepth 100000 in
theorem lc_27 (lau : Launch) (G : GT) {p : Program} {e : Env} {s : State} {m : MethodId} {args : Array Value} {below : List Frame} {meth : Method} {c : Code} {A : Nat → Prop} {Q : State → Prop} (F : FX p room_1 s m args c code RL 9 2000 G A) (hSF : SF s) (hSH : SH A s s.heap) (hNC : NC s) (hst : lau.stackTraces = false) {b L : Nat} {xs : Nat → Int32} (hX : va_X b L xs s s.heap) (hbl : b < s.heap.size) (hbA : ¬ A b) (hL : L ≤ 2048) (ad : Nat → Nat) (ao : Nat) (am : Nat → Nat) (T : Nat → Int32) (n mo ver : Nat) (S : Nat → Int32) (h : Nat) (P : PT) (Tr : TT) (Rg : RT) (co : Nat → Int32) (len : Nat) (Rd : DT) (O : Nat → Int64) (Tw i_ : Nat) (ft : Bool) (vl : Nat) (td : Nat → Int32) (tn : Nat) (ke sp Lo Wi : Nat → Int32) {K : Nat} (hK : 4 * K + 4 ≤ L) (I : LIV K T n mo ver S h P Tr Rg co len Rd) (hnx : NX lau p e s m args below meth c G A Q ad ao am b K) : V p lau e room_1 s m args below meth c 9 G A Q (wW ad ao am G (T, n, mo, ver) (S, h) P Tr Rg (co, len) Rd O (snp T n mo) (S, h) (co, len) Tw (i_, ft, vl, td, tn) (ke, sp) Lo Wi) (30 + K) (10000 + 6 * K) 1700 (lwl ad ao am b (4 * K)) [] := by
  have hkk : K < 512 := by omega
  obtain ⟨hk1, hk2⟩ := room_k hkk
  refine v_aload_n F dL_law_1700 1 rfl rfl ?_
  refine v_cVLS F cs_RL_187 dL_law_1701 0 (ci := 7) rfl rfl [0, 1, 2, 3, 4, 5, 6, 7, 8, 9, 10, 11, 12, 13, 14, 15, 16, 17] [18, 19, 20, 21, 22, 23, 24, 25, 26, 27] (wc := wC ad G (T, n, mo, ver) (S, h) P Tr Rg (co, len) Rd) (wr := (ao, .inl (G.2.2.2, 1, .inr (.inl O))) :: wM am G (snp T n mo) (S, h) (co, len) Tw (i_, ft, vl, td, tn) (ke, sp) Lo Wi) rfl rfl rfl rfl rfl (by decide) (m_X7_digest lau G ad T n mo ver S h P Tr Rg co len Rd I.1 I.2.2.1 I.2.2.2.2.2.2.2.1.1 I.2.2.2.2.2.2.2.1.2.1 I.2.2.2.2.2.2.2.1.2.2 I.2.1 I.2.2.2.2.2.1) (by decide) rfl rfl (Nat.le_of_ble_eq_true rfl) ⟨by omega, by omega⟩ (fun r1 u hw => ?_)
  obtain ⟨P1, Tr1, Rg1⟩ := u
  obtain ⟨hv1, hci⟩ := hw
  refine v_pick [10, 11, 12, 13, 14, 15, 16, 17, 18, 19, 20, 21, 22, 23, 24, 25, 26, 27, 0, 1, 2, 3, 4, 5, 6, 7, 8, 9] (w' := wL ad ao G (T, n, mo, ver) (S, h) P1 Tr1 Rg1 (co, len) Rd O ++ wM am G (snp T n mo) (S, h) (co, len) Tw (i_, ft, vl, td, tn) (ke, sp) Lo Wi) rfl rfl rfl ?_
  refine v_aload_n F dL_law_1704 2 rfl rfl ?_
  refine v_cVLS F cs_RL_191 dL_law_1705 19 (ci := 8) rfl rfl [19, 20, 21, 22, 23, 24, 25, 26, 27] [0, 1, 2, 3, 4, 5, 6, 7, 8, 9, 10, 11, 12, 13, 14, 15, 16, 17, 18] (wc := wM am G (snp T n mo) (S, h) (co, len) Tw (i_, ft, vl, td, tn) (ke, sp) Lo Wi) (wr := wL ad ao G (T, n, mo, ver) (S, h) P1 Tr1 Rg1 (co, len) Rd O) rfl rfl rfl rfl rfl (by decide) (m_X8_digest lau G am T n mo S h co len Tw (i_, ft, vl, td, tn) ke sp Lo Wi I.1 I.2.2.1 I.2.1 I.2.2.2.2.2.1) (by decide) rfl rfl (Nat.le_of_ble_eq_true rfl) ⟨by omega, by omega⟩ (fun r2 u2 hm => ?_)
  obtain ⟨N1, H2, X2, Q1, K1, Lo1, Wi1⟩ := u2
  refine v_w (w' := wW ad ao am G (T, n, mo, ver) (S, h) P1 Tr1 Rg1 (co, len) Rd O N1 H2 X2 0 Q1 K1 Lo1 Wi1) rfl ?_
  obtain ⟨hv2, eN, eH2, eX2⟩ := hm.1 rfl
  refine v_lcmp F dL_law_1708 ?_
  have e1 : r1 = r2 := hv1.trans hv2.symm
  refine v_if_eq F 1714 dL_law_1709 (by decide) (fun _ => ?_) (fun hq => absurd (by rw [e1]; exact lg_self _) hq)
  refine v_st (w' := wW ad ao am G (T, n, mo, ver) (S, h) P1 Tr1 Rg1 (co, len) Rd O N1 H2 X2 0 Q1 K1 Lo1 Wi1) (pc' := 1714) (st' := []) rfl rfl rfl [0, 1, 2, 3, 4] (lv' := lwl ad ao am b (4 * K)) rfl ?_
  refine v_widen (k' := 30 + (K + 1)) (n' := 10000 + 6 * (K + 1)) (by omega) (by omega) ?_
  exact hnx _ _ _ _ _ _ _ _ _ _ _ _ _ _ _ _ ⟨_, _, _, _, _, _, _, _, rfl, rfl, rfl, eN, eH2, eX2, I.look hkk hci⟩
