/-! the tree's places, as its constructor lays them -/
def GEO2 (fp lp : Nat → Int32) (n : Nat) : Prop := ∀ j, 1 ≤ j → j < n → fp j = nI (gF j) ∧ lp j = nI (gL j)
theorem geo_0 : GEO2 (fun _ => 0) (upd (fun _ => 0) 1 (nI 63)) (2 * 1) := fun j h1 h2 => by
  have e : j = 1 := by omega
  subst e; exact ⟨by decide, by decide⟩
theorem geo_r {fp lp : Nat → Int32} {k : Nat} {a : Int32} (h : GEO2 fp lp (2 * k)) (h1 : 1 ≤ k) (h2 : k < 64) : upd lp (2 * k) a k = nI (gL k) := by
  rw [upd_n (by omega)]; exact (h k h1 (by omega)).2
theorem geo_n {fp lp : Nat → Int32} {k : Nat} (h : GEO2 fp lp (2 * k)) (h1 : 1 ≤ k) (h2 : k < 64) : GEO2 (upd (upd fp (2 * k) (nI (gF k))) ((2 * k) + 1) (nI (((gF k) + (gL k)) / 2 + 1))) (upd (upd lp (2 * k) (nI (((gF k) + (gL k)) / 2))) ((2 * k) + 1) (nI (gL k))) (2 * (k + 1)) := fun j h3 h4 => by
  obtain ⟨-, -, -, g⟩ := geo_all k (by omega) h1
  obtain ⟨g1, g2, g3, g4⟩ := g h2
  rcases (show j < 2 * k ∨ j = 2 * k ∨ j = (2 * k) + 1 by omega) with q | rfl | rfl
  · rw [upd_n (by omega), upd_n (by omega), upd_n (by omega), upd_n (by omega)]; exact h j h3 q
  · rw [upd_n (by omega), upd_s, upd_n (by omega), upd_s, g1, g2]; exact ⟨rfl, rfl⟩
  · rw [upd_s, upd_s, g3, g4]; exact ⟨rfl, rfl⟩
theorem geo_e {fp lp : Nat → Int32} {k : Nat} (h : GEO2 fp lp (2 * k)) (hk : 64 ≤ k) : GEO fp lp := fun j h1 h2 => h j h1 (by omega)
def lad (l : List Nat) (k : Nat) : Nat := l.getD k 0
set_option maxHeartbeats 1000000 in
set_option maxRecDepth 100000 in
theorem m_X1_init (lau : Launch) (G : GT) (a : Nat) : MC lau G 1 yX1_init cX1_init 1 [.ref a] ([(a, .inr (1, [.null, .int 0, .int 0, .int 0]))]) (fun u : Nat => [(a, .inr (1, [.ref u, .int (nI 0), .int (nI 0), .int (nI 0)])), (u, .inl (G.2.1, 120, .inl (fun _ => 0)))]) (fun u => True) 1 120 := by
  refine mc_of (by decide +kernel) (Nat.le_of_ble_eq_true rfl) rfl ?_
  intro p e s m args below meth c A Q F hr hlk hnm hNM hQ
  refine v_st (w' := [(a, .inr (1, [.null, .int 0, .int 0, .int 0]))]) (pc' := 0) (st' := []) rfl rfl rfl [0] (lv' := [(0, .ref a)]) rfl ?_
  refine v_aload_n F dX1_init_0 0 rfl rfl ?_
  refine v_objInit F wM_RX1_3 dX1_init_1 (by decide) (by decide) ?_
  refine v_aload_n F dX1_init_4 0 rfl rfl ?_
  refine v_bipush (v := nI 120) F dX1_init_5 (by decide) ?_
  refine v_newI F (N := 120) (by decide) (Nat.le_of_ble_eq_true rfl) (Nat.le_of_ble_eq_true rfl) dX1_init_7 (fun t1 => ?_)
  refine v_w (w' := [(a, .inr (1, [.null, .int 0, .int 0, .int 0])), (t1, .inl (G.2.1, 120, .inl (fun _ => 0)))]) rfl ?_
  refine v_putF F inlX1 (ci := 1) rfl tyX1 tyX1_ok nmX1 0 (by decide) rfl rfl hnm wF_RX1_9 dX1_init_9 (ty := (.array .int)) (by decide +kernel) rfl rfl 0 rfl (Nat.le_of_ble_eq_true rfl) ([(a, .inr (1, [.ref t1, .int 0, .int 0, .int 0])), (t1, .inl (G.2.1, 120, .inl (fun _ => 0)))]) rfl ?_
  refine v_aload_n F dX1_init_12 0 rfl rfl ?_
  refine v_iconst (v := nI 0) F dX1_init_13 (by decide) ?_
  refine v_put F inlX1 (ci := 1) rfl tyX1 tyX1_ok nmX1 1 (by decide) rfl rfl wF_RX1_15 dX1_init_14 (ty := .int) (by decide +kernel) rfl rfl 0 rfl (Nat.le_of_ble_eq_true rfl) ([(a, .inr (1, [.ref t1, .int (nI 0), .int 0, .int 0])), (t1, .inl (G.2.1, 120, .inl (fun _ => 0)))]) rfl ?_
  refine v_aload_n F dX1_init_17 0 rfl rfl ?_
  refine v_iconst (v := nI 0) F dX1_init_18 (by decide) ?_
  refine v_put F inlX1 (ci := 1) rfl tyX1 tyX1_ok nmX1 2 (by decide) rfl rfl wF_RX1_19 dX1_init_19 (ty := .int) (by decide +kernel) rfl rfl 0 rfl (Nat.le_of_ble_eq_true rfl) ([(a, .inr (1, [.ref t1, .int (nI 0), .int (nI 0), .int 0])), (t1, .inl (G.2.1, 120, .inl (fun _ => 0)))]) rfl ?_
  refine v_aload_n F dX1_init_22 0 rfl rfl ?_
  refine v_iconst (v := nI 0) F dX1_init_23 (by decide) ?_
  refine v_put F inlX1 (ci := 1) rfl tyX1 tyX1_ok nmX1 3 (by decide) rfl rfl wF_RX1_22 dX1_init_24 (ty := .int) (by decide +kernel) rfl rfl 0 rfl (Nat.le_of_ble_eq_true rfl) ([(a, .inr (1, [.ref t1, .int (nI 0), .int (nI 0), .int (nI 0)])), (t1, .inl (G.2.1, 120, .inl (fun _ => 0)))]) rfl ?_
  exact v_vret F hr hlk hQ dX1_init_27 ((t1)) rfl (by trivial)
set_option maxHeartbeats 1000000 in
set_option maxRecDepth 100000 in
theorem m_X0_init (lau : Launch) (G : GT) (a : Nat) : MC lau G 1 yX0_init cX0_init 1 [.ref a] ([(a, .inr (0, [.null, .int 0]))]) (fun u : Nat => [(a, .inr (0, [.ref u, .int (nI 0)])), (u, .inl (G.2.1, 732, .inl (fun _ => 0)))]) (fun u => True) 1 732 := by
  refine mc_of (by decide +kernel) (Nat.le_of_ble_eq_true rfl) rfl ?_
  intro p e s m args below meth c A Q F hr hlk hnm hNM hQ
  refine v_st (w' := [(a, .inr (0, [.null, .int 0]))]) (pc' := 0) (st' := []) rfl rfl rfl [0] (lv' := [(0, .ref a)]) rfl ?_
  refine v_aload_n F dX0_init_0 0 rfl rfl ?_
  refine v_objInit F wM_RX0_3 dX0_init_1 (by decide) (by decide) ?_
  refine v_aload_n F dX0_init_4 0 rfl rfl ?_
  refine v_sipush (v := nI 732) F dX0_init_5 (by decide) ?_
  refine v_newI F (N := 732) (by decide) (Nat.le_of_ble_eq_true rfl) (Nat.le_of_ble_eq_true rfl) dX0_init_8 (fun t1 => ?_)
  refine v_w (w' := [(a, .inr (0, [.null, .int 0])), (t1, .inl (G.2.1, 732, .inl (fun _ => 0)))]) rfl ?_
  refine v_putF F inlX0 (ci := 0) rfl tyX0 tyX0_ok nmX0 0 (by decide) rfl rfl hnm wF_RX0_11 dX0_init_10 (ty := (.array .int)) (by decide +kernel) rfl rfl 0 rfl (Nat.le_of_ble_eq_true rfl) ([(a, .inr (0, [.ref t1, .int 0])), (t1, .inl (G.2.1, 732, .inl (fun _ => 0)))]) rfl ?_
  refine v_aload_n F dX0_init_13 0 rfl rfl ?_
  refine v_iconst (v := nI 0) F dX0_init_14 (by decide) ?_
  refine v_put F inlX0 (ci := 0) rfl tyX0 tyX0_ok nmX0 1 (by decide) rfl rfl wF_RX0_17 dX0_init_15 (ty := .int) (by decide +kernel) rfl rfl 0 rfl (Nat.le_of_ble_eq_true rfl) ([(a, .inr (0, [.ref t1, .int (nI 0)])), (t1, .inl (G.2.1, 732, .inl (fun _ => 0)))]) rfl ?_
  exact v_vret F hr hlk hQ dX0_init_18 ((t1)) rfl (by trivial)
set_option maxHeartbeats 1000000 in
set_option maxRecDepth 100000 in
theorem m_X3_init (lau : Launch) (G : GT) (a : Nat) : MC lau G 1 yX3_init cX3_init 1 [.ref a] ([(a, .inr (3, [.int 0, .int 0, .int 0, .int 0, .int 0, .int 0]))]) (fun u : Unit => [(a, .inr (3, [.int (nI 0), .int (nI 0), .int (bI false), .int (nI 0), .int (nI 0), .int (nI 0)]))]) (fun u => True) 0 0 := by
  refine mc_of (by decide +kernel) (Nat.le_of_ble_eq_true rfl) rfl ?_
  intro p e s m args below meth c A Q F hr hlk hnm hNM hQ
  refine v_st (w' := [(a, .inr (3, [.int 0, .int 0, .int 0, .int 0, .int 0, .int 0]))]) (pc' := 0) (st' := []) rfl rfl rfl [0] (lv' := [(0, .ref a)]) rfl ?_
  refine v_aload_n F dX3_init_0 0 rfl rfl ?_
  refine v_objInit F wM_RX3_3 dX3_init_1 (by decide) (by decide) ?_
  refine v_aload_n F dX3_init_4 0 rfl rfl ?_
  refine v_iconst (v := nI 0) F dX3_init_5 (by decide) ?_
  refine v_put F inlX3 (ci := 3) rfl tyX3 tyX3_ok nmX3 0 (by decide) rfl rfl wF_RX3_11 dX3_init_6 (ty := .int) (by decide +kernel) rfl rfl 0 rfl (Nat.le_of_ble_eq_true rfl) ([(a, .inr (3, [.int (nI 0), .int 0, .int 0, .int 0, .int 0, .int 0]))]) rfl ?_
  refine v_aload_n F dX3_init_9 0 rfl rfl ?_
  refine v_iconst (v := nI 0) F dX3_init_10 (by decide) ?_
  refine v_put F inlX3 (ci := 3) rfl tyX3 tyX3_ok nmX3 1 (by decide) rfl rfl wF_RX3_15 dX3_init_11 (ty := .int) (by decide +kernel) rfl rfl 0 rfl (Nat.le_of_ble_eq_true rfl) ([(a, .inr (3, [.int (nI 0), .int (nI 0), .int 0, .int 0, .int 0, .int 0]))]) rfl ?_
  refine v_aload_n F dX3_init_14 0 rfl rfl ?_
  refine v_iconst (v := nI 0) F dX3_init_15 (by decide) ?_
  refine v_put F inlX3 (ci := 3) rfl tyX3 tyX3_ok nmX3 2 (by decide) rfl rfl wF_RX3_18 dX3_init_16 (ty := .boolean) (by decide +kernel) (nar_b false) (fit_b false) 0 rfl (Nat.le_of_ble_eq_true rfl) ([(a, .inr (3, [.int (nI 0), .int (nI 0), .int (bI false), .int 0, .int 0, .int 0]))]) rfl ?_
  refine v_aload_n F dX3_init_19 0 rfl rfl ?_
  refine v_iconst (v := nI 0) F dX3_init_20 (by decide) ?_
  refine v_put F inlX3 (ci := 3) rfl tyX3 tyX3_ok nmX3 3 (by decide) rfl rfl wF_RX3_22 dX3_init_21 (ty := .int) (by decide +kernel) rfl rfl 0 rfl (Nat.le_of_ble_eq_true rfl) ([(a, .inr (3, [.int (nI 0), .int (nI 0), .int (bI false), .int (nI 0), .int 0, .int 0]))]) rfl ?_
  refine v_aload_n F dX3_init_24 0 rfl rfl ?_
  refine v_iconst (v := nI 0) F dX3_init_25 (by decide) ?_
  refine v_put F inlX3 (ci := 3) rfl tyX3 tyX3_ok nmX3 4 (by decide) rfl rfl wF_RX3_25 dX3_init_26 (ty := .int) (by decide +kernel) rfl rfl 0 rfl (Nat.le_of_ble_eq_true rfl) ([(a, .inr (3, [.int (nI 0), .int (nI 0), .int (bI false), .int (nI 0), .int (nI 0), .int 0]))]) rfl ?_
  refine v_aload_n F dX3_init_29 0 rfl rfl ?_
  refine v_iconst (v := nI 0) F dX3_init_30 (by decide) ?_
  refine v_put F inlX3 (ci := 3) rfl tyX3 tyX3_ok nmX3 5 (by decide) rfl rfl wF_RX3_28 dX3_init_31 (ty := .int) (by decide +kernel) rfl rfl 0 rfl (Nat.le_of_ble_eq_true rfl) ([(a, .inr (3, [.int (nI 0), .int (nI 0), .int (bI false), .int (nI 0), .int (nI 0), .int (nI 0)]))]) rfl ?_
  exact v_vret F hr hlk hQ dX3_init_34 (()) rfl (by trivial)
set_option maxHeartbeats 1000000 in
set_option maxRecDepth 100000 in
theorem m_X2_init (lau : Launch) (G : GT) (a b : Nat) : MC lau G 1 yX2_init cX2_init 2 [.ref a, .ref b] ([(a, .inr (2, [.null, .null, .null, .int 0, .int 0]))]) (fun u : Nat × Nat => [(a, .inr (2, [.ref b, .ref u.1, .ref u.2, .int (nI 0), .int (-1)])), (u.1, .inl (G.2.1, 64, .inl (fun _ => 0))), (u.2, .inl (G.2.1, 65, .inl (fun _ => 0)))]) (fun u => True) 2 129 := by
  refine mc_of (by decide +kernel) (Nat.le_of_ble_eq_true rfl) rfl ?_
  intro p e s m args below meth c A Q F hr hlk hnm hNM hQ
  refine v_st (w' := [(a, .inr (2, [.null, .null, .null, .int 0, .int 0]))]) (pc' := 0) (st' := []) rfl rfl rfl [0, 1] (lv' := [(0, .ref a), (1, .ref b)]) rfl ?_
  refine v_aload_n F dX2_init_0 0 rfl rfl ?_
  refine v_objInit F wM_RX2_3 dX2_init_1 (by decide) (by decide) ?_
  refine v_aload_n F dX2_init_4 0 rfl rfl ?_
  refine v_bipush (v := nI 64) F dX2_init_5 (by decide) ?_
  refine v_newI F (N := 64) (by decide) (Nat.le_of_ble_eq_true rfl) (Nat.le_of_ble_eq_true rfl) dX2_init_7 (fun t1 => ?_)
  refine v_w (w' := [(a, .inr (2, [.null, .null, .null, .int 0, .int 0])), (t1, .inl (G.2.1, 64, .inl (fun _ => 0)))]) rfl ?_
  refine v_putF F inlX2 (ci := 2) rfl tyX2 tyX2_ok nmX2 1 (by decide) rfl rfl hnm wF_RX2_9 dX2_init_9 (ty := (.array .int)) (by decide +kernel) rfl rfl 0 rfl (Nat.le_of_ble_eq_true rfl) ([(a, .inr (2, [.null, .ref t1, .null, .int 0, .int 0])), (t1, .inl (G.2.1, 64, .inl (fun _ => 0)))]) rfl ?_
  refine v_aload_n F dX2_init_12 0 rfl rfl ?_
  refine v_bipush (v := nI 65) F dX2_init_13 (by decide) ?_
  refine v_newI F (N := 65) (by decide) (Nat.le_of_ble_eq_true rfl) (Nat.le_of_ble_eq_true rfl) dX2_init_15 (fun t2 => ?_)
  refine v_w (w' := [(a, .inr (2, [.null, .ref t1, .null, .int 0, .int 0])), (t1, .inl (G.2.1, 64, .inl (fun _ => 0))), (t2, .inl (G.2.1, 65, .inl (fun _ => 0)))]) rfl ?_
  refine v_putF F inlX2 (ci := 2) rfl tyX2 tyX2_ok nmX2 2 (by decide) rfl rfl hnm wF_RX2_15 dX2_init_17 (ty := (.array .int)) (by decide +kernel) rfl rfl 0 rfl (Nat.le_of_ble_eq_true rfl) ([(a, .inr (2, [.null, .ref t1, .ref t2, .int 0, .int 0])), (t1, .inl (G.2.1, 64, .inl (fun _ => 0))), (t2, .inl (G.2.1, 65, .inl (fun _ => 0)))]) rfl ?_
  refine v_aload_n F dX2_init_20 0 rfl rfl ?_
  refine v_iconst (v := nI 0) F dX2_init_21 (by decide) ?_
  refine v_put F inlX2 (ci := 2) rfl tyX2 tyX2_ok nmX2 3 (by decide) rfl rfl wF_RX2_18 dX2_init_22 (ty := .int) (by decide +kernel) rfl rfl 0 rfl (Nat.le_of_ble_eq_true rfl) ([(a, .inr (2, [.null, .ref t1, .ref t2, .int (nI 0), .int 0])), (t1, .inl (G.2.1, 64, .inl (fun _ => 0))), (t2, .inl (G.2.1, 65, .inl (fun _ => 0)))]) rfl ?_
  refine v_aload_n F dX2_init_25 0 rfl rfl ?_
  refine v_iconst (v := (-1)) F dX2_init_26 (by decide) ?_
  refine v_put F inlX2 (ci := 2) rfl tyX2 tyX2_ok nmX2 4 (by decide) rfl rfl wF_RX2_22 dX2_init_27 (ty := .int) (by decide +kernel) rfl rfl 0 rfl (Nat.le_of_ble_eq_true rfl) ([(a, .inr (2, [.null, .ref t1, .ref t2, .int (nI 0), .int (-1)])), (t1, .inl (G.2.1, 64, .inl (fun _ => 0))), (t2, .inl (G.2.1, 65, .inl (fun _ => 0)))]) rfl ?_
  refine v_aload_n F dX2_init_30 0 rfl rfl ?_
  refine v_aload_n F dX2_init_31 1 rfl rfl ?_
  refine v_putF F inlX2 (ci := 2) rfl tyX2 tyX2_ok nmX2 0 (by decide) rfl rfl hnm wF_RX2_25 dX2_init_32 (ty := (.object "LineLives$Lines")) (by decide +kernel) rfl rfl 0 rfl (Nat.le_of_ble_eq_true rfl) ([(a, .inr (2, [.ref b, .ref t1, .ref t2, .int (nI 0), .int (-1)])), (t1, .inl (G.2.1, 64, .inl (fun _ => 0))), (t2, .inl (G.2.1, 65, .inl (fun _ => 0)))]) rfl ?_
  exact v_vret F hr hlk hQ dX2_init_35 ((t1, t2)) rfl (by trivial)
set_option maxHeartbeats 1000000 in
set_option maxRecDepth 100000 in
theorem m_X4_init (lau : Launch) (G : GT) (a b : Nat) : MC lau G 1 yX4_init cX4_init 2 [.ref a, .ref b] ([(a, .inr (4, [.null, .null, .int 0]))]) (fun u : Nat => [(a, .inr (4, [.ref b, .ref u, .int (-1)])), (u, .inl (G.2.1, 20, .inl (fun _ => 0)))]) (fun u => True) 1 20 := by
  refine mc_of (by decide +kernel) (Nat.le_of_ble_eq_true rfl) rfl ?_
  intro p e s m args below meth c A Q F hr hlk hnm hNM hQ
  refine v_st (w' := [(a, .inr (4, [.null, .null, .int 0]))]) (pc' := 0) (st' := []) rfl rfl rfl [0, 1] (lv' := [(0, .ref a), (1, .ref b)]) rfl ?_
  refine v_aload_n F dX4_init_0 0 rfl rfl ?_
  refine v_objInit F wM_RX4_3 dX4_init_1 (by decide) (by decide) ?_
  refine v_aload_n F dX4_init_4 0 rfl rfl ?_
  refine v_bipush (v := nI 20) F dX4_init_5 (by decide) ?_
  refine v_newI F (N := 20) (by decide) (Nat.le_of_ble_eq_true rfl) (Nat.le_of_ble_eq_true rfl) dX4_init_7 (fun t1 => ?_)
  refine v_w (w' := [(a, .inr (4, [.null, .null, .int 0])), (t1, .inl (G.2.1, 20, .inl (fun _ => 0)))]) rfl ?_
  refine v_putF F inlX4 (ci := 4) rfl tyX4 tyX4_ok nmX4 1 (by decide) rfl rfl hnm wF_RX4_9 dX4_init_9 (ty := (.array .int)) (by decide +kernel) rfl rfl 0 rfl (Nat.le_of_ble_eq_true rfl) ([(a, .inr (4, [.null, .ref t1, .int 0])), (t1, .inl (G.2.1, 20, .inl (fun _ => 0)))]) rfl ?_
  refine v_aload_n F dX4_init_12 0 rfl rfl ?_
  refine v_iconst (v := (-1)) F dX4_init_13 (by decide) ?_
  refine v_put F inlX4 (ci := 4) rfl tyX4 tyX4_ok nmX4 2 (by decide) rfl rfl wF_RX4_15 dX4_init_14 (ty := .int) (by decide +kernel) rfl rfl 0 rfl (Nat.le_of_ble_eq_true rfl) ([(a, .inr (4, [.null, .ref t1, .int (-1)])), (t1, .inl (G.2.1, 20, .inl (fun _ => 0)))]) rfl ?_
  refine v_aload_n F dX4_init_17 0 rfl rfl ?_
  refine v_aload_n F dX4_init_18 1 rfl rfl ?_
  refine v_putF F inlX4 (ci := 4) rfl tyX4 tyX4_ok nmX4 0 (by decide) rfl rfl hnm wF_RX4_19 dX4_init_19 (ty := (.object "LineLives$Lines")) (by decide +kernel) rfl rfl 0 rfl (Nat.le_of_ble_eq_true rfl) ([(a, .inr (4, [.ref b, .ref t1, .int (-1)])), (t1, .inl (G.2.1, 20, .inl (fun _ => 0)))]) rfl ?_
  exact v_vret F hr hlk hQ dX4_init_22 ((t1)) rfl (by trivial)
theorem ci_RX5_17 : CSN RX5 17 yX3_init cX3_init 1 0 := ⟨wC_yX3_init, (by simp [NMW]), wIm_yX3_init, wI_RX3, rfl, by decide +kernel, by decide⟩
set_option maxHeartbeats 1000000 in
set_option maxRecDepth 100000 in
theorem m_X5_init (lau : Launch) (G : GT) (a : Nat) : MC lau G 2 yX5_init cX5_init 1 [.ref a] ([(a, .inr (5, [.null, .null, .int 0]))]) (fun u : Nat × Nat => [(a, .inr (5, [.ref u.1, .ref u.2, .int (nI 0)])), (u.1, .inl (G.2.1, 60, .inl (fun _ => 0))), (u.2, .inr (3, [.int (nI 0), .int (nI 0), .int (bI false), .int (nI 0), .int (nI 0), .int (nI 0)]))]) (fun u => True) 2 66 := by
  refine mc_of (by decide +kernel) (Nat.le_of_ble_eq_true rfl) rfl ?_
  intro p e s m args below meth c A Q F hr hlk hnm hNM hQ
  refine v_st (w' := [(a, .inr (5, [.null, .null, .int 0]))]) (pc' := 0) (st' := []) rfl rfl rfl [0] (lv' := [(0, .ref a)]) rfl ?_
  refine v_aload_n F dX5_init_0 0 rfl rfl ?_
  refine v_objInit F wM_RX5_3 dX5_init_1 (by decide) (by decide) ?_
  refine v_aload_n F dX5_init_4 0 rfl rfl ?_
  refine v_bipush (v := nI 60) F dX5_init_5 (by decide) ?_
  refine v_newI F (N := 60) (by decide) (Nat.le_of_ble_eq_true rfl) (Nat.le_of_ble_eq_true rfl) dX5_init_7 (fun t1 => ?_)
  refine v_w (w' := [(a, .inr (5, [.null, .null, .int 0])), (t1, .inl (G.2.1, 60, .inl (fun _ => 0)))]) rfl ?_
  refine v_putF F inlX5 (ci := 5) rfl tyX5 tyX5_ok nmX5 0 (by decide) rfl rfl hnm wF_RX5_9 dX5_init_9 (ty := (.array .int)) (by decide +kernel) rfl rfl 0 rfl (Nat.le_of_ble_eq_true rfl) ([(a, .inr (5, [.ref t1, .null, .int 0])), (t1, .inl (G.2.1, 60, .inl (fun _ => 0)))]) rfl ?_
  refine v_aload_n F dX5_init_12 0 rfl rfl ?_
  refine v_new F inlX3 (ci := 3) rfl tyX3 tyX3_ok wL_RX5_15 wN_RX3 wI_RX3 [.int 0, .int 0, .int 0, .int 0, .int 0, .int 0] (fun j hj => by rcases (show j = 0 ∨ j = 1 ∨ j = 2 ∨ j = 3 ∨ j = 4 ∨ j = 5 by omega) with rfl | rfl | rfl | rfl | rfl | rfl <;> rfl) (Nat.le_of_ble_eq_true rfl) (Nat.le_of_ble_eq_true rfl) dX5_init_13 (fun t2 => ?_)
  refine v_w (w' := [(a, .inr (5, [.ref t1, .null, .int 0])), (t1, .inl (G.2.1, 60, .inl (fun _ => 0))), (t2, .inr (3, [.int 0, .int 0, .int 0, .int 0, .int 0, .int 0]))]) rfl ?_
  refine v_dup F dX5_init_16 rfl ?_
  refine v_cIN F hNM ci_RX5_17 dX5_init_17 [2] [0, 1] (wc := [(t2, .inr (3, [.int 0, .int 0, .int 0, .int 0, .int 0, .int 0]))]) (wr := [(a, .inr (5, [.ref t1, .null, .int 0])), (t1, .inl (G.2.1, 60, .inl (fun _ => 0)))]) rfl rfl rfl rfl rfl (by decide) (m_X3_init lau G t2) (by decide) rfl rfl (Nat.le_of_ble_eq_true rfl) ⟨(Nat.le_of_ble_eq_true rfl), (Nat.le_of_ble_eq_true rfl)⟩ (fun u1 w2 => ?_)
  refine v_w (w' := [(a, .inr (5, [.ref t1, .null, .int 0])), (t1, .inl (G.2.1, 60, .inl (fun _ => 0))), (t2, .inr (3, [.int (nI 0), .int (nI 0), .int (bI false), .int (nI 0), .int (nI 0), .int (nI 0)]))]) rfl ?_
  refine v_putF F inlX5 (ci := 5) rfl tyX5 tyX5_ok nmX5 1 (by decide) rfl rfl hnm wF_RX5_18 dX5_init_20 (ty := (.object "LineLives$Reader")) (by decide +kernel) rfl rfl 0 rfl (Nat.le_of_ble_eq_true rfl) ([(a, .inr (5, [.ref t1, .ref t2, .int 0])), (t1, .inl (G.2.1, 60, .inl (fun _ => 0))), (t2, .inr (3, [.int (nI 0), .int (nI 0), .int (bI false), .int (nI 0), .int (nI 0), .int (nI 0)]))]) rfl ?_
  refine v_aload_n F dX5_init_23 0 rfl rfl ?_
  refine v_iconst (v := nI 0) F dX5_init_24 (by decide) ?_
  refine v_put F inlX5 (ci := 5) rfl tyX5 tyX5_ok nmX5 2 (by decide) rfl rfl wF_RX5_22 dX5_init_25 (ty := .int) (by decide +kernel) rfl rfl 0 rfl (Nat.le_of_ble_eq_true rfl) ([(a, .inr (5, [.ref t1, .ref t2, .int (nI 0)])), (t1, .inl (G.2.1, 60, .inl (fun _ => 0))), (t2, .inr (3, [.int (nI 0), .int (nI 0), .int (bI false), .int (nI 0), .int (nI 0), .int (nI 0)]))]) rfl ?_
  exact v_vret F hr hlk hQ dX5_init_28 ((t1, t2)) rfl (by trivial)
set_option maxHeartbeats 1000000 in
set_option maxRecDepth 100000 in
theorem m_X6_init (lau : Launch) (G : GT) (a b : Nat) : MC lau G 1 yX6_init cX6_init 4 [.ref a, .ref b] ([(a, .inr (6, [.null, .null, .null, .null, .null, .int 0]))]) (fun u : Nat × Nat × Nat × Nat × (Nat → Int32) × (Nat → Int32) => [(a, .inr (6, [.ref b, .ref u.1, .ref u.2.1, .ref u.2.2.1, .ref u.2.2.2.1, .int (-1)])), (u.1, .inl (G.2.1, 128, .inl (u.2.2.2.2.1))), (u.2.1, .inl (G.2.1, 128, .inl (u.2.2.2.2.2))), (u.2.2.1, .inl (G.2.1, 128, .inl (fun _ => 0))), (u.2.2.2.1, .inl (G.2.1, 128, .inl (fun _ => 0)))]) (fun u => GEO u.2.2.2.2.1 u.2.2.2.2.2) 4 512 := by
  refine mc_of (by decide +kernel) (Nat.le_of_ble_eq_true rfl) rfl ?_
  intro p e s m args below meth c A Q F hr hlk hnm hNM hQ
  refine v_st (w' := [(a, .inr (6, [.null, .null, .null, .null, .null, .int 0]))]) (pc' := 0) (st' := []) rfl rfl rfl [0, 1] (lv' := [(0, .ref a), (1, .ref b)]) rfl ?_
  refine v_aload_n F dX6_init_0 0 rfl rfl ?_
  refine v_objInit F wM_RX6_3 dX6_init_1 (by decide) (by decide) ?_
  refine v_aload_n F dX6_init_4 0 rfl rfl ?_
  refine v_sipush (v := nI 128) F dX6_init_5 (by decide) ?_
  refine v_newI F (N := 128) (by decide) (Nat.le_of_ble_eq_true rfl) (Nat.le_of_ble_eq_true rfl) dX6_init_8 (fun t1 => ?_)
  refine v_w (w' := [(a, .inr (6, [.null, .null, .null, .null, .null, .int 0])), (t1, .inl (G.2.1, 128, .inl (fun _ => 0)))]) rfl ?_
  refine v_putF F inlX6 (ci := 6) rfl tyX6 tyX6_ok nmX6 1 (by decide) rfl rfl hnm wF_RX6_9 dX6_init_10 (ty := (.array .int)) (by decide +kernel) rfl rfl 0 rfl (Nat.le_of_ble_eq_true rfl) ([(a, .inr (6, [.null, .ref t1, .null, .null, .null, .int 0])), (t1, .inl (G.2.1, 128, .inl (fun _ => 0)))]) rfl ?_
  refine v_aload_n F dX6_init_13 0 rfl rfl ?_
  refine v_sipush (v := nI 128) F dX6_init_14 (by decide) ?_
  refine v_newI F (N := 128) (by decide) (Nat.le_of_ble_eq_true rfl) (Nat.le_of_ble_eq_true rfl) dX6_init_17 (fun t2 => ?_)
  refine v_w (w' := [(a, .inr (6, [.null, .ref t1, .null, .null, .null, .int 0])), (t1, .inl (G.2.1, 128, .inl (fun _ => 0))), (t2, .inl (G.2.1, 128, .inl (fun _ => 0)))]) rfl ?_
  refine v_putF F inlX6 (ci := 6) rfl tyX6 tyX6_ok nmX6 2 (by decide) rfl rfl hnm wF_RX6_15 dX6_init_19 (ty := (.array .int)) (by decide +kernel) rfl rfl 0 rfl (Nat.le_of_ble_eq_true rfl) ([(a, .inr (6, [.null, .ref t1, .ref t2, .null, .null, .int 0])), (t1, .inl (G.2.1, 128, .inl (fun _ => 0))), (t2, .inl (G.2.1, 128, .inl (fun _ => 0)))]) rfl ?_
  refine v_aload_n F dX6_init_22 0 rfl rfl ?_
  refine v_sipush (v := nI 128) F dX6_init_23 (by decide) ?_
  refine v_newI F (N := 128) (by decide) (Nat.le_of_ble_eq_true rfl) (Nat.le_of_ble_eq_true rfl) dX6_init_26 (fun t3 => ?_)
  refine v_w (w' := [(a, .inr (6, [.null, .ref t1, .ref t2, .null, .null, .int 0])), (t1, .inl (G.2.1, 128, .inl (fun _ => 0))), (t2, .inl (G.2.1, 128, .inl (fun _ => 0))), (t3, .inl (G.2.1, 128, .inl (fun _ => 0)))]) rfl ?_
  refine v_putF F inlX6 (ci := 6) rfl tyX6 tyX6_ok nmX6 3 (by decide) rfl rfl hnm wF_RX6_18 dX6_init_28 (ty := (.array .int)) (by decide +kernel) rfl rfl 0 rfl (Nat.le_of_ble_eq_true rfl) ([(a, .inr (6, [.null, .ref t1, .ref t2, .ref t3, .null, .int 0])), (t1, .inl (G.2.1, 128, .inl (fun _ => 0))), (t2, .inl (G.2.1, 128, .inl (fun _ => 0))), (t3, .inl (G.2.1, 128, .inl (fun _ => 0)))]) rfl ?_
  refine v_aload_n F dX6_init_31 0 rfl rfl ?_
  refine v_sipush (v := nI 128) F dX6_init_32 (by decide) ?_
  refine v_newI F (N := 128) (by decide) (Nat.le_of_ble_eq_true rfl) (Nat.le_of_ble_eq_true rfl) dX6_init_35 (fun t4 => ?_)
  refine v_w (w' := [(a, .inr (6, [.null, .ref t1, .ref t2, .ref t3, .null, .int 0])), (t1, .inl (G.2.1, 128, .inl (fun _ => 0))), (t2, .inl (G.2.1, 128, .inl (fun _ => 0))), (t3, .inl (G.2.1, 128, .inl (fun _ => 0))), (t4, .inl (G.2.1, 128, .inl (fun _ => 0)))]) rfl ?_
  refine v_putF F inlX6 (ci := 6) rfl tyX6 tyX6_ok nmX6 4 (by decide) rfl rfl hnm wF_RX6_21 dX6_init_37 (ty := (.array .int)) (by decide +kernel) rfl rfl 0 rfl (Nat.le_of_ble_eq_true rfl) ([(a, .inr (6, [.null, .ref t1, .ref t2, .ref t3, .ref t4, .int 0])), (t1, .inl (G.2.1, 128, .inl (fun _ => 0))), (t2, .inl (G.2.1, 128, .inl (fun _ => 0))), (t3, .inl (G.2.1, 128, .inl (fun _ => 0))), (t4, .inl (G.2.1, 128, .inl (fun _ => 0)))]) rfl ?_
  refine v_aload_n F dX6_init_40 0 rfl rfl ?_
  refine v_iconst (v := (-1)) F dX6_init_41 (by decide) ?_
  refine v_put F inlX6 (ci := 6) rfl tyX6 tyX6_ok nmX6 5 (by decide) rfl rfl wF_RX6_24 dX6_init_42 (ty := .int) (by decide +kernel) rfl rfl 0 rfl (Nat.le_of_ble_eq_true rfl) ([(a, .inr (6, [.null, .ref t1, .ref t2, .ref t3, .ref t4, .int (-1)])), (t1, .inl (G.2.1, 128, .inl (fun _ => 0))), (t2, .inl (G.2.1, 128, .inl (fun _ => 0))), (t3, .inl (G.2.1, 128, .inl (fun _ => 0))), (t4, .inl (G.2.1, 128, .inl (fun _ => 0)))]) rfl ?_
  refine v_aload_n F dX6_init_45 0 rfl rfl ?_
  refine v_aload_n F dX6_init_46 1 rfl rfl ?_
  refine v_putF F inlX6 (ci := 6) rfl tyX6 tyX6_ok nmX6 0 (by decide) rfl rfl hnm wF_RX6_28 dX6_init_47 (ty := (.object "LineLives$Lines")) (by decide +kernel) rfl rfl 0 rfl (Nat.le_of_ble_eq_true rfl) ([(a, .inr (6, [.ref b, .ref t1, .ref t2, .ref t3, .ref t4, .int (-1)])), (t1, .inl (G.2.1, 128, .inl (fun _ => 0))), (t2, .inl (G.2.1, 128, .inl (fun _ => 0))), (t3, .inl (G.2.1, 128, .inl (fun _ => 0))), (t4, .inl (G.2.1, 128, .inl (fun _ => 0)))]) rfl ?_
  refine v_aload_n F dX6_init_50 0 rfl rfl ?_
  refine v_get (v := .ref t2) F inlX6 (ci := 6) rfl 2 (by decide) rfl wF_RX6_15 dX6_init_51 0 rfl rfl ?_
  refine v_iconst (v := nI 1) F dX6_init_54 (by decide) ?_
  refine v_bipush (v := nI 63) F dX6_init_55 (by decide) ?_
  refine v_iastN F dX6_init_57 2 rfl 1 rfl (by omega) (by decide) ([(a, .inr (6, [.ref b, .ref t1, .ref t2, .ref t3, .ref t4, .int (-1)])), (t1, .inl (G.2.1, 128, .inl (fun _ => 0))), (t2, .inl (G.2.1, 128, .inl (upd (fun _ => 0) 1 (nI 63)))), (t3, .inl (G.2.1, 128, .inl (fun _ => 0))), (t4, .inl (G.2.1, 128, .inl (fun _ => 0)))]) rfl ?_
  refine v_iconst (v := nI 1) F dX6_init_58 (by decide) ?_
  refine v_istore_n (lv' := [(2, .int (nI 1)), (0, .ref a), (1, .ref b)]) F dX6_init_59 2 rfl (by decide) rfl ?_
  have L60 : ∀ (k_ : Nat) (k : Nat) (fp : Nat → Int32) (lp : Nat → Int32), 64 - k < k_ → (1 ≤ k) → (k ≤ 64) → (GEO2 fp lp (2 * k)) → V p lau e (RC 1 4 512) s m args below meth c 4 G A Q ([(a, .inr (6, [.ref b, .ref t1, .ref t2, .ref t3, .ref t4, .int (-1)])), (t1, .inl (G.2.1, 128, .inl (fp))), (t2, .inl (G.2.1, 128, .inl (lp))), (t3, .inl (G.2.1, 128, .inl (fun _ => 0))), (t4, .inl (G.2.1, 128, .inl (fun _ => 0)))]) 4 512 60 [(2, .int (nI k)), (0, .ref a), (1, .ref b)] [] := by
    intro k_
    induction k_ with
    | zero => exact fun k fp lp hk_ hk hk2 hg => absurd hk_ (Nat.not_lt_zero _)
    | succ k_ ih60 =>
      intro k fp lp hk_60 hk hk2 hg
      refine v_iconst (v := nI 2) F dX6_init_60 (by decide) ?_
      refine v_iload_n F dX6_init_61 2 rfl rfl ?_
      refine v_imul F dX6_init_62 ?_
      refine v_topi (nI (2 * k)) (pk_mul 2 k) ?_
      refine v_bipush (v := nI 127) F dX6_init_63 (by decide) ?_
      refine v_icmp_ge F 142 dX6_init_65 (by decide) (fun c1 => ?_) (fun c1 => ?_)
      · replace c1 := nG (a := (2 * k)) (b := 127) (by omega) (by decide) c1
        exact v_vret F hr hlk hQ dX6_init_142 ((t1, t2, t3, t4, fp, lp)) rfl (by exact geo_e hg (by omega))
      · replace c1 := nGn (a := (2 * k)) (b := 127) (by omega) (by decide) c1
        obtain ⟨hga, hgb, -⟩ := geo_all k (by omega) hk
        refine v_aload_n F dX6_init_68 0 rfl rfl ?_
        refine v_get (v := .ref t1) F inlX6 (ci := 6) rfl 1 (by decide) rfl wF_RX6_9 dX6_init_69 0 rfl rfl ?_
        refine v_iload_n F dX6_init_72 2 rfl rfl ?_
        refine v_ialdN F dX6_init_73 1 rfl k rfl (by omega) (by decide) (fp k) rfl ?_
        refine v_topi (nI (gF k)) ((hg _ (by omega) (by omega)).1) ?_
        refine v_aload_n F dX6_init_74 0 rfl rfl ?_
        refine v_get (v := .ref t2) F inlX6 (ci := 6) rfl 2 (by decide) rfl wF_RX6_15 dX6_init_75 0 rfl rfl ?_
        refine v_iload_n F dX6_init_78 2 rfl rfl ?_
        refine v_ialdN F dX6_init_79 2 rfl k rfl (by omega) (by decide) (lp k) rfl ?_
        refine v_topi (nI (gL k)) ((hg _ (by omega) (by omega)).2) ?_
        refine v_iadd F dX6_init_80 ?_
        refine v_topi (nI ((gF k) + (gL k))) (nI_add (gF k) (gL k)) ?_
        refine v_iconst (v := nI 2) F dX6_init_81 (by decide) ?_
        refine v_idiv F dX6_init_82 (by decide) ?_
        refine v_topi (nI (((gF k) + (gL k)) / 2)) (pk_div (by omega) (by decide) (by decide)) ?_
        refine v_istore_n (lv' := [(3, .int (nI (((gF k) + (gL k)) / 2))), (2, .int (nI k)), (0, .ref a), (1, .ref b)]) F dX6_init_83 3 rfl (by decide) rfl ?_
        refine v_aload_n F dX6_init_84 0 rfl rfl ?_
        refine v_get (v := .ref t1) F inlX6 (ci := 6) rfl 1 (by decide) rfl wF_RX6_9 dX6_init_85 0 rfl rfl ?_
        refine v_iconst (v := nI 2) F dX6_init_88 (by decide) ?_
        refine v_iload_n F dX6_init_89 2 rfl rfl ?_
        refine v_imul F dX6_init_90 ?_
        refine v_topi (nI (2 * k)) (pk_mul 2 k) ?_
        refine v_aload_n F dX6_init_91 0 rfl rfl ?_
        refine v_get (v := .ref t1) F inlX6 (ci := 6) rfl 1 (by decide) rfl wF_RX6_9 dX6_init_92 0 rfl rfl ?_
        refine v_iload_n F dX6_init_95 2 rfl rfl ?_
        refine v_ialdN F dX6_init_96 1 rfl k rfl (by omega) (by decide) (fp k) rfl ?_
        refine v_topi (nI (gF k)) ((hg _ (by omega) (by omega)).1) ?_
        refine v_iastN F dX6_init_97 1 rfl (2 * k) rfl (by omega) (by decide) ([(a, .inr (6, [.ref b, .ref t1, .ref t2, .ref t3, .ref t4, .int (-1)])), (t1, .inl (G.2.1, 128, .inl (upd fp (2 * k) (nI (gF k))))), (t2, .inl (G.2.1, 128, .inl (lp))), (t3, .inl (G.2.1, 128, .inl (fun _ => 0))), (t4, .inl (G.2.1, 128, .inl (fun _ => 0)))]) rfl ?_
        refine v_aload_n F dX6_init_98 0 rfl rfl ?_
        refine v_get (v := .ref t2) F inlX6 (ci := 6) rfl 2 (by decide) rfl wF_RX6_15 dX6_init_99 0 rfl rfl ?_
        refine v_iconst (v := nI 2) F dX6_init_102 (by decide) ?_
        refine v_iload_n F dX6_init_103 2 rfl rfl ?_
        refine v_imul F dX6_init_104 ?_
        refine v_topi (nI (2 * k)) (pk_mul 2 k) ?_
        refine v_iload_n F dX6_init_105 3 rfl rfl ?_
        refine v_iastN F dX6_init_106 2 rfl (2 * k) rfl (by omega) (by decide) ([(a, .inr (6, [.ref b, .ref t1, .ref t2, .ref t3, .ref t4, .int (-1)])), (t1, .inl (G.2.1, 128, .inl (upd fp (2 * k) (nI (gF k))))), (t2, .inl (G.2.1, 128, .inl (upd lp (2 * k) (nI (((gF k) + (gL k)) / 2))))), (t3, .inl (G.2.1, 128, .inl (fun _ => 0))), (t4, .inl (G.2.1, 128, .inl (fun _ => 0)))]) rfl ?_
        refine v_aload_n F dX6_init_107 0 rfl rfl ?_
        refine v_get (v := .ref t1) F inlX6 (ci := 6) rfl 1 (by decide) rfl wF_RX6_9 dX6_init_108 0 rfl rfl ?_
        refine v_iconst (v := nI 2) F dX6_init_111 (by decide) ?_
        refine v_iload_n F dX6_init_112 2 rfl rfl ?_
        refine v_imul F dX6_init_113 ?_
        refine v_topi (nI (2 * k)) (pk_mul 2 k) ?_
        refine v_iconst (v := nI 1) F dX6_init_114 (by decide) ?_
        refine v_iadd F dX6_init_115 ?_
        refine v_topi (nI ((2 * k) + 1)) (nI_add (2 * k) 1) ?_
        refine v_iload_n F dX6_init_116 3 rfl rfl ?_
        refine v_iconst (v := nI 1) F dX6_init_117 (by decide) ?_
        refine v_iadd F dX6_init_118 ?_
        refine v_topi (nI ((((gF k) + (gL k)) / 2) + 1)) (nI_add (((gF k) + (gL k)) / 2) 1) ?_
        refine v_iastN F dX6_init_119 1 rfl ((2 * k) + 1) rfl (by omega) (by decide) ([(a, .inr (6, [.ref b, .ref t1, .ref t2, .ref t3, .ref t4, .int (-1)])), (t1, .inl (G.2.1, 128, .inl (upd (upd fp (2 * k) (nI (gF k))) ((2 * k) + 1) (nI ((((gF k) + (gL k)) / 2) + 1))))), (t2, .inl (G.2.1, 128, .inl (upd lp (2 * k) (nI (((gF k) + (gL k)) / 2))))), (t3, .inl (G.2.1, 128, .inl (fun _ => 0))), (t4, .inl (G.2.1, 128, .inl (fun _ => 0)))]) rfl ?_
        refine v_aload_n F dX6_init_120 0 rfl rfl ?_
        refine v_get (v := .ref t2) F inlX6 (ci := 6) rfl 2 (by decide) rfl wF_RX6_15 dX6_init_121 0 rfl rfl ?_
        refine v_iconst (v := nI 2) F dX6_init_124 (by decide) ?_
        refine v_iload_n F dX6_init_125 2 rfl rfl ?_
        refine v_imul F dX6_init_126 ?_
        refine v_topi (nI (2 * k)) (pk_mul 2 k) ?_
        refine v_iconst (v := nI 1) F dX6_init_127 (by decide) ?_
        refine v_iadd F dX6_init_128 ?_
        refine v_topi (nI ((2 * k) + 1)) (nI_add (2 * k) 1) ?_
        refine v_aload_n F dX6_init_129 0 rfl rfl ?_
        refine v_get (v := .ref t2) F inlX6 (ci := 6) rfl 2 (by decide) rfl wF_RX6_15 dX6_init_130 0 rfl rfl ?_
        refine v_iload_n F dX6_init_133 2 rfl rfl ?_
        refine v_ialdN F dX6_init_134 2 rfl k rfl (by omega) (by decide) ((upd lp (2 * k) (nI (((gF k) + (gL k)) / 2))) k) rfl ?_
        refine v_topi (nI (gL k)) (geo_r hg (by omega) (by omega)) ?_
        refine v_iastN F dX6_init_135 2 rfl ((2 * k) + 1) rfl (by omega) (by decide) ([(a, .inr (6, [.ref b, .ref t1, .ref t2, .ref t3, .ref t4, .int (-1)])), (t1, .inl (G.2.1, 128, .inl (upd (upd fp (2 * k) (nI (gF k))) ((2 * k) + 1) (nI ((((gF k) + (gL k)) / 2) + 1))))), (t2, .inl (G.2.1, 128, .inl (upd (upd lp (2 * k) (nI (((gF k) + (gL k)) / 2))) ((2 * k) + 1) (nI (gL k))))), (t3, .inl (G.2.1, 128, .inl (fun _ => 0))), (t4, .inl (G.2.1, 128, .inl (fun _ => 0)))]) rfl ?_
        refine v_iinc (lv' := [(2, .int (nI (k + 1))), (3, .int (nI (((gF k) + (gL k)) / 2))), (0, .ref a), (1, .ref b)]) F (nI (k + 1)) dX6_init_136 rfl (nI_add k 1) (by decide) rfl ?_
        refine v_goto F 60 dX6_init_139 (by decide) ?_
        refine v_st (w' := [(a, .inr (6, [.ref b, .ref t1, .ref t2, .ref t3, .ref t4, .int (-1)])), (t1, .inl (G.2.1, 128, .inl (upd (upd fp (2 * k) (nI (gF k))) ((2 * k) + 1) (nI ((((gF k) + (gL k)) / 2) + 1))))), (t2, .inl (G.2.1, 128, .inl (upd (upd lp (2 * k) (nI (((gF k) + (gL k)) / 2))) ((2 * k) + 1) (nI (gL k))))), (t3, .inl (G.2.1, 128, .inl (fun _ => 0))), (t4, .inl (G.2.1, 128, .inl (fun _ => 0)))]) (pc' := 60) (st' := []) rfl rfl rfl [0, 2, 3] (lv' := [(2, .int (nI (k + 1))), (0, .ref a), (1, .ref b)]) rfl ?_
        exact ih60 (k + 1) (upd (upd fp (2 * k) (nI (gF k))) ((2 * k) + 1) (nI ((((gF k) + (gL k)) / 2) + 1))) (upd (upd lp (2 * k) (nI (((gF k) + (gL k)) / 2))) ((2 * k) + 1) (nI (gL k))) (by omega) (by omega) (by omega) (geo_n hg (by omega) (by omega))
  refine v_st (w' := [(a, .inr (6, [.ref b, .ref t1, .ref t2, .ref t3, .ref t4, .int (-1)])), (t1, .inl (G.2.1, 128, .inl (fun _ => 0))), (t2, .inl (G.2.1, 128, .inl (upd (fun _ => 0) 1 (nI 63)))), (t3, .inl (G.2.1, 128, .inl (fun _ => 0))), (t4, .inl (G.2.1, 128, .inl (fun _ => 0)))]) (pc' := 60) (st' := []) rfl rfl rfl [0, 1, 2] (lv' := [(2, .int (nI 1)), (0, .ref a), (1, .ref b)]) rfl ?_
  exact L60 _ 1 (fun _ => 0) (upd (fun _ => 0) 1 (nI 63)) (Nat.lt_succ_self _) (by omega) (by omega) (geo_0)
theorem ci_RX7_9 : CSN RX7 9 yX1_init cX1_init 1 0 := ⟨wC_yX1_init, (by simp [NMW]), wIm_yX1_init, wI_RX1, rfl, by decide +kernel, by decide⟩
theorem ci_RX7_18 : CSN RX7 18 yX0_init cX0_init 1 0 := ⟨wC_yX0_init, (by simp [NMW]), wIm_yX0_init, wI_RX0, rfl, by decide +kernel, by decide⟩
theorem ci_RX7_25 : CSN RX7 25 yX5_init cX5_init 1 0 := ⟨wC_yX5_init, (by simp [NMW]), wIm_yX5_init, wI_RX5, rfl, by decide +kernel, by decide⟩
theorem ci_RX7_32 : CSI RX7 32 yX2_init cX2_init 2 1 := ⟨wC_yX2_init, wM_RX7_32, wIm_yX2_init, wI_RX2, rfl, by decide +kernel, by decide⟩
theorem ci_RX7_41 : CSI RX7 41 yX6_init cX6_init 4 1 := ⟨wC_yX6_init, wM_RX7_41, wIm_yX6_init, wI_RX6, rfl, by decide +kernel, by decide⟩
theorem ci_RX7_48 : CSI RX7 48 yX4_init cX4_init 2 1 := ⟨wC_yX4_init, wM_RX7_48, wIm_yX4_init, wI_RX4, rfl, by decide +kernel, by decide⟩
set_option maxHeartbeats 1000000 in
set_option maxRecDepth 100000 in
theorem m_X7_init (lau : Launch) (G : GT) (a : Nat) : MC lau G 3 yX7_init cX7_init 1 [.ref a] ([(a, .inr (7, [.null, .null, .null, .null, .null, .null]))]) (fun u : (Nat → Nat) × (Nat → Int32) × (Nat → Int32) => wC u.1 G ((fun _ => 0), 0, 0, 0) ((fun _ => 0), 0) ((fun _ => 0), (fun _ => 0), 0, -1) (u.2.1, u.2.2, (fun _ => 0), (fun _ => 0), -1) ((fun _ => 0), -1) ((fun _ => 0), 0) (0, 0, false, nI 0, nI 0, 0)) (fun u => u.1 0 = a ∧ GEO u.2.1 u.2.2) 17 1602 := by
  refine mc_of (by decide +kernel) (Nat.le_of_ble_eq_true rfl) rfl ?_
  intro p e s m args below meth c A Q F hr hlk hnm hNM hQ
  refine v_st (w' := [(a, .inr (7, [.null, .null, .null, .null, .null, .null]))]) (pc' := 0) (st' := []) rfl rfl rfl [0] (lv' := [(0, .ref a)]) rfl ?_
  refine v_aload_n F dX7_init_0 0 rfl rfl ?_
  refine v_objInit F wM_RX7_1 dX7_init_1 (by decide) (by decide) ?_
  refine v_aload_n F dX7_init_4 0 rfl rfl ?_
  refine v_new F inlX1 (ci := 1) rfl tyX1 tyX1_ok wL_RX7_7 wN_RX1 wI_RX1 [.null, .int 0, .int 0, .int 0] (fun j hj => by rcases (show j = 0 ∨ j = 1 ∨ j = 2 ∨ j = 3 by omega) with rfl | rfl | rfl | rfl <;> rfl) (Nat.le_of_ble_eq_true rfl) (Nat.le_of_ble_eq_true rfl) dX7_init_5 (fun o1 => ?_)
  refine v_w (w' := [(a, .inr (7, [.null, .null, .null, .null, .null, .null])), (o1, .inr (1, [.null, .int 0, .int 0, .int 0]))]) rfl ?_
  refine v_dup F dX7_init_8 rfl ?_
  refine v_cIN F hNM ci_RX7_9 dX7_init_9 [1] [0] (wc := [(o1, .inr (1, [.null, .int 0, .int 0, .int 0]))]) (wr := [(a, .inr (7, [.null, .null, .null, .null, .null, .null]))]) rfl rfl rfl rfl rfl (by decide) (m_X1_init lau G o1) (by decide) rfl rfl (Nat.le_of_ble_eq_true rfl) ⟨(Nat.le_of_ble_eq_true rfl), (Nat.le_of_ble_eq_true rfl)⟩ (fun u1 w2 => ?_)
  refine v_w (w' := [(a, .inr (7, [.null, .null, .null, .null, .null, .null])), (o1, .inr (1, [.ref u1, .int (nI 0), .int (nI 0), .int (nI 0)])), (u1, .inl (G.2.1, 120, .inl (fun _ => 0)))]) rfl ?_
  refine v_putF F inlX7 (ci := 7) rfl tyX7 tyX7_ok nmX7 0 (by decide) rfl rfl hnm wF_RX7_10 dX7_init_12 (ty := (.object "LineLives$Lines")) (by decide +kernel) rfl rfl 0 rfl (Nat.le_of_ble_eq_true rfl) ([(a, .inr (7, [.ref o1, .null, .null, .null, .null, .null])), (o1, .inr (1, [.ref u1, .int (nI 0), .int (nI 0), .int (nI 0)])), (u1, .inl (G.2.1, 120, .inl (fun _ => 0)))]) rfl ?_
  refine v_aload_n F dX7_init_15 0 rfl rfl ?_
  refine v_new F inlX0 (ci := 0) rfl tyX0 tyX0_ok wL_RX7_16 wN_RX0 wI_RX0 [.null, .int 0] (fun j hj => by rcases (show j = 0 ∨ j = 1 by omega) with rfl | rfl <;> rfl) (Nat.le_of_ble_eq_true rfl) (Nat.le_of_ble_eq_true rfl) dX7_init_16 (fun o2 => ?_)
  refine v_w (w' := [(a, .inr (7, [.ref o1, .null, .null, .null, .null, .null])), (o1, .inr (1, [.ref u1, .int (nI 0), .int (nI 0), .int (nI 0)])), (u1, .inl (G.2.1, 120, .inl (fun _ => 0))), (o2, .inr (0, [.null, .int 0]))]) rfl ?_
  refine v_dup F dX7_init_19 rfl ?_
  refine v_cIN F hNM ci_RX7_18 dX7_init_20 [3] [0, 1, 2] (wc := [(o2, .inr (0, [.null, .int 0]))]) (wr := [(a, .inr (7, [.ref o1, .null, .null, .null, .null, .null])), (o1, .inr (1, [.ref u1, .int (nI 0), .int (nI 0), .int (nI 0)])), (u1, .inl (G.2.1, 120, .inl (fun _ => 0)))]) rfl rfl rfl rfl rfl (by decide) (m_X0_init lau G o2) (by decide) rfl rfl (Nat.le_of_ble_eq_true rfl) ⟨(Nat.le_of_ble_eq_true rfl), (Nat.le_of_ble_eq_true rfl)⟩ (fun u3 w4 => ?_)
  refine v_w (w' := [(a, .inr (7, [.ref o1, .null, .null, .null, .null, .null])), (o1, .inr (1, [.ref u1, .int (nI 0), .int (nI 0), .int (nI 0)])), (u1, .inl (G.2.1, 120, .inl (fun _ => 0))), (o2, .inr (0, [.ref u3, .int (nI 0)])), (u3, .inl (G.2.1, 732, .inl (fun _ => 0)))]) rfl ?_
  refine v_putF F inlX7 (ci := 7) rfl tyX7 tyX7_ok nmX7 1 (by decide) rfl rfl hnm wF_RX7_19 dX7_init_23 (ty := (.object "LineLives$History")) (by decide +kernel) rfl rfl 0 rfl (Nat.le_of_ble_eq_true rfl) ([(a, .inr (7, [.ref o1, .ref o2, .null, .null, .null, .null])), (o1, .inr (1, [.ref u1, .int (nI 0), .int (nI 0), .int (nI 0)])), (u1, .inl (G.2.1, 120, .inl (fun _ => 0))), (o2, .inr (0, [.ref u3, .int (nI 0)])), (u3, .inl (G.2.1, 732, .inl (fun _ => 0)))]) rfl ?_
  refine v_aload_n F dX7_init_26 0 rfl rfl ?_
  refine v_new F inlX5 (ci := 5) rfl tyX5 tyX5_ok wL_RX7_23 wN_RX5 wI_RX5 [.null, .null, .int 0] (fun j hj => by rcases (show j = 0 ∨ j = 1 ∨ j = 2 by omega) with rfl | rfl | rfl <;> rfl) (Nat.le_of_ble_eq_true rfl) (Nat.le_of_ble_eq_true rfl) dX7_init_27 (fun o3 => ?_)
  refine v_w (w' := [(a, .inr (7, [.ref o1, .ref o2, .null, .null, .null, .null])), (o1, .inr (1, [.ref u1, .int (nI 0), .int (nI 0), .int (nI 0)])), (u1, .inl (G.2.1, 120, .inl (fun _ => 0))), (o2, .inr (0, [.ref u3, .int (nI 0)])), (u3, .inl (G.2.1, 732, .inl (fun _ => 0))), (o3, .inr (5, [.null, .null, .int 0]))]) rfl ?_
  refine v_dup F dX7_init_30 rfl ?_
  refine v_cIN F hNM ci_RX7_25 dX7_init_31 [5] [0, 1, 2, 3, 4] (wc := [(o3, .inr (5, [.null, .null, .int 0]))]) (wr := [(a, .inr (7, [.ref o1, .ref o2, .null, .null, .null, .null])), (o1, .inr (1, [.ref u1, .int (nI 0), .int (nI 0), .int (nI 0)])), (u1, .inl (G.2.1, 120, .inl (fun _ => 0))), (o2, .inr (0, [.ref u3, .int (nI 0)])), (u3, .inl (G.2.1, 732, .inl (fun _ => 0)))]) rfl rfl rfl rfl rfl (by decide) (m_X5_init lau G o3) (by decide) rfl rfl (Nat.le_of_ble_eq_true rfl) ⟨(Nat.le_of_ble_eq_true rfl), (Nat.le_of_ble_eq_true rfl)⟩ (fun u5 w6 => ?_)
  obtain ⟨t1_6, t2_6⟩ := u5
  refine v_w (w' := [(a, .inr (7, [.ref o1, .ref o2, .null, .null, .null, .null])), (o1, .inr (1, [.ref u1, .int (nI 0), .int (nI 0), .int (nI 0)])), (u1, .inl (G.2.1, 120, .inl (fun _ => 0))), (o2, .inr (0, [.ref u3, .int (nI 0)])), (u3, .inl (G.2.1, 732, .inl (fun _ => 0))), (o3, .inr (5, [.ref t1_6, .ref t2_6, .int (nI 0)])), (t1_6, .inl (G.2.1, 60, .inl (fun _ => 0))), (t2_6, .inr (3, [.int (nI 0), .int (nI 0), .int (bI false), .int (nI 0), .int (nI 0), .int (nI 0)]))]) rfl ?_
  refine v_putF F inlX7 (ci := 7) rfl tyX7 tyX7_ok nmX7 2 (by decide) rfl rfl hnm wF_RX7_26 dX7_init_34 (ty := (.object "LineLives$Text")) (by decide +kernel) rfl rfl 0 rfl (Nat.le_of_ble_eq_true rfl) ([(a, .inr (7, [.ref o1, .ref o2, .ref o3, .null, .null, .null])), (o1, .inr (1, [.ref u1, .int (nI 0), .int (nI 0), .int (nI 0)])), (u1, .inl (G.2.1, 120, .inl (fun _ => 0))), (o2, .inr (0, [.ref u3, .int (nI 0)])), (u3, .inl (G.2.1, 732, .inl (fun _ => 0))), (o3, .inr (5, [.ref t1_6, .ref t2_6, .int (nI 0)])), (t1_6, .inl (G.2.1, 60, .inl (fun _ => 0))), (t2_6, .inr (3, [.int (nI 0), .int (nI 0), .int (bI false), .int (nI 0), .int (nI 0), .int (nI 0)]))]) rfl ?_
  refine v_aload_n F dX7_init_37 0 rfl rfl ?_
  refine v_new F inlX2 (ci := 2) rfl tyX2 tyX2_ok wL_RX7_30 wN_RX2 wI_RX2 [.null, .null, .null, .int 0, .int 0] (fun j hj => by rcases (show j = 0 ∨ j = 1 ∨ j = 2 ∨ j = 3 ∨ j = 4 by omega) with rfl | rfl | rfl | rfl | rfl <;> rfl) (Nat.le_of_ble_eq_true rfl) (Nat.le_of_ble_eq_true rfl) dX7_init_38 (fun o4 => ?_)
  refine v_w (w' := [(a, .inr (7, [.ref o1, .ref o2, .ref o3, .null, .null, .null])), (o1, .inr (1, [.ref u1, .int (nI 0), .int (nI 0), .int (nI 0)])), (u1, .inl (G.2.1, 120, .inl (fun _ => 0))), (o2, .inr (0, [.ref u3, .int (nI 0)])), (u3, .inl (G.2.1, 732, .inl (fun _ => 0))), (o3, .inr (5, [.ref t1_6, .ref t2_6, .int (nI 0)])), (t1_6, .inl (G.2.1, 60, .inl (fun _ => 0))), (t2_6, .inr (3, [.int (nI 0), .int (nI 0), .int (bI false), .int (nI 0), .int (nI 0), .int (nI 0)])), (o4, .inr (2, [.null, .null, .null, .int 0, .int 0]))]) rfl ?_
  refine v_dup F dX7_init_41 rfl ?_
  refine v_aload_n F dX7_init_42 0 rfl rfl ?_
  refine v_get (v := .ref o1) F inlX7 (ci := 7) rfl 0 (by decide) rfl wF_RX7_10 dX7_init_43 0 rfl rfl ?_
  refine v_cI F hNM ci_RX7_32 dX7_init_46 [8] [0, 1, 2, 3, 4, 5, 6, 7] (wc := [(o4, .inr (2, [.null, .null, .null, .int 0, .int 0]))]) (wr := [(a, .inr (7, [.ref o1, .ref o2, .ref o3, .null, .null, .null])), (o1, .inr (1, [.ref u1, .int (nI 0), .int (nI 0), .int (nI 0)])), (u1, .inl (G.2.1, 120, .inl (fun _ => 0))), (o2, .inr (0, [.ref u3, .int (nI 0)])), (u3, .inl (G.2.1, 732, .inl (fun _ => 0))), (o3, .inr (5, [.ref t1_6, .ref t2_6, .int (nI 0)])), (t1_6, .inl (G.2.1, 60, .inl (fun _ => 0))), (t2_6, .inr (3, [.int (nI 0), .int (nI 0), .int (bI false), .int (nI 0), .int (nI 0), .int (nI 0)]))]) rfl rfl rfl rfl rfl (by decide) (m_X2_init lau G o4 o1) (by decide) rfl rfl (Nat.le_of_ble_eq_true rfl) ⟨(Nat.le_of_ble_eq_true rfl), (Nat.le_of_ble_eq_true rfl)⟩ (fun u7 w8 => ?_)
  obtain ⟨t1_8, t2_8⟩ := u7
  refine v_w (w' := [(a, .inr (7, [.ref o1, .ref o2, .ref o3, .null, .null, .null])), (o1, .inr (1, [.ref u1, .int (nI 0), .int (nI 0), .int (nI 0)])), (u1, .inl (G.2.1, 120, .inl (fun _ => 0))), (o2, .inr (0, [.ref u3, .int (nI 0)])), (u3, .inl (G.2.1, 732, .inl (fun _ => 0))), (o3, .inr (5, [.ref t1_6, .ref t2_6, .int (nI 0)])), (t1_6, .inl (G.2.1, 60, .inl (fun _ => 0))), (t2_6, .inr (3, [.int (nI 0), .int (nI 0), .int (bI false), .int (nI 0), .int (nI 0), .int (nI 0)])), (o4, .inr (2, [.ref o1, .ref t1_8, .ref t2_8, .int (nI 0), .int (-1)])), (t1_8, .inl (G.2.1, 64, .inl (fun _ => 0))), (t2_8, .inl (G.2.1, 65, .inl (fun _ => 0)))]) rfl ?_
  refine v_putF F inlX7 (ci := 7) rfl tyX7 tyX7_ok nmX7 3 (by decide) rfl rfl hnm wF_RX7_35 dX7_init_49 (ty := (.object "LineLives$Present")) (by decide +kernel) rfl rfl 0 rfl (Nat.le_of_ble_eq_true rfl) ([(a, .inr (7, [.ref o1, .ref o2, .ref o3, .ref o4, .null, .null])), (o1, .inr (1, [.ref u1, .int (nI 0), .int (nI 0), .int (nI 0)])), (u1, .inl (G.2.1, 120, .inl (fun _ => 0))), (o2, .inr (0, [.ref u3, .int (nI 0)])), (u3, .inl (G.2.1, 732, .inl (fun _ => 0))), (o3, .inr (5, [.ref t1_6, .ref t2_6, .int (nI 0)])), (t1_6, .inl (G.2.1, 60, .inl (fun _ => 0))), (t2_6, .inr (3, [.int (nI 0), .int (nI 0), .int (bI false), .int (nI 0), .int (nI 0), .int (nI 0)])), (o4, .inr (2, [.ref o1, .ref t1_8, .ref t2_8, .int (nI 0), .int (-1)])), (t1_8, .inl (G.2.1, 64, .inl (fun _ => 0))), (t2_8, .inl (G.2.1, 65, .inl (fun _ => 0)))]) rfl ?_
  refine v_aload_n F dX7_init_52 0 rfl rfl ?_
  refine v_new F inlX6 (ci := 6) rfl tyX6 tyX6_ok wL_RX7_39 wN_RX6 wI_RX6 [.null, .null, .null, .null, .null, .int 0] (fun j hj => by rcases (show j = 0 ∨ j = 1 ∨ j = 2 ∨ j = 3 ∨ j = 4 ∨ j = 5 by omega) with rfl | rfl | rfl | rfl | rfl | rfl <;> rfl) (Nat.le_of_ble_eq_true rfl) (Nat.le_of_ble_eq_true rfl) dX7_init_53 (fun o5 => ?_)
  refine v_w (w' := [(a, .inr (7, [.ref o1, .ref o2, .ref o3, .ref o4, .null, .null])), (o1, .inr (1, [.ref u1, .int (nI 0), .int (nI 0), .int (nI 0)])), (u1, .inl (G.2.1, 120, .inl (fun _ => 0))), (o2, .inr (0, [.ref u3, .int (nI 0)])), (u3, .inl (G.2.1, 732, .inl (fun _ => 0))), (o3, .inr (5, [.ref t1_6, .ref t2_6, .int (nI 0)])), (t1_6, .inl (G.2.1, 60, .inl (fun _ => 0))), (t2_6, .inr (3, [.int (nI 0), .int (nI 0), .int (bI false), .int (nI 0), .int (nI 0), .int (nI 0)])), (o4, .inr (2, [.ref o1, .ref t1_8, .ref t2_8, .int (nI 0), .int (-1)])), (t1_8, .inl (G.2.1, 64, .inl (fun _ => 0))), (t2_8, .inl (G.2.1, 65, .inl (fun _ => 0))), (o5, .inr (6, [.null, .null, .null, .null, .null, .int 0]))]) rfl ?_
  refine v_dup F dX7_init_56 rfl ?_
  refine v_aload_n F dX7_init_57 0 rfl rfl ?_
  refine v_get (v := .ref o1) F inlX7 (ci := 7) rfl 0 (by decide) rfl wF_RX7_10 dX7_init_58 0 rfl rfl ?_
  refine v_cI F hNM ci_RX7_41 dX7_init_61 [11] [0, 1, 2, 3, 4, 5, 6, 7, 8, 9, 10] (wc := [(o5, .inr (6, [.null, .null, .null, .null, .null, .int 0]))]) (wr := [(a, .inr (7, [.ref o1, .ref o2, .ref o3, .ref o4, .null, .null])), (o1, .inr (1, [.ref u1, .int (nI 0), .int (nI 0), .int (nI 0)])), (u1, .inl (G.2.1, 120, .inl (fun _ => 0))), (o2, .inr (0, [.ref u3, .int (nI 0)])), (u3, .inl (G.2.1, 732, .inl (fun _ => 0))), (o3, .inr (5, [.ref t1_6, .ref t2_6, .int (nI 0)])), (t1_6, .inl (G.2.1, 60, .inl (fun _ => 0))), (t2_6, .inr (3, [.int (nI 0), .int (nI 0), .int (bI false), .int (nI 0), .int (nI 0), .int (nI 0)])), (o4, .inr (2, [.ref o1, .ref t1_8, .ref t2_8, .int (nI 0), .int (-1)])), (t1_8, .inl (G.2.1, 64, .inl (fun _ => 0))), (t2_8, .inl (G.2.1, 65, .inl (fun _ => 0)))]) rfl rfl rfl rfl rfl (by decide) (m_X6_init lau G o5 o1) (by decide) rfl rfl (Nat.le_of_ble_eq_true rfl) ⟨(Nat.le_of_ble_eq_true rfl), (Nat.le_of_ble_eq_true rfl)⟩ (fun u9 w10 => ?_)
  obtain ⟨t1_10, t2_10, t3_10, t4_10, fp, lp⟩ := u9
  have hG : GEO fp lp := w10
  refine v_w (w' := [(a, .inr (7, [.ref o1, .ref o2, .ref o3, .ref o4, .null, .null])), (o1, .inr (1, [.ref u1, .int (nI 0), .int (nI 0), .int (nI 0)])), (u1, .inl (G.2.1, 120, .inl (fun _ => 0))), (o2, .inr (0, [.ref u3, .int (nI 0)])), (u3, .inl (G.2.1, 732, .inl (fun _ => 0))), (o3, .inr (5, [.ref t1_6, .ref t2_6, .int (nI 0)])), (t1_6, .inl (G.2.1, 60, .inl (fun _ => 0))), (t2_6, .inr (3, [.int (nI 0), .int (nI 0), .int (bI false), .int (nI 0), .int (nI 0), .int (nI 0)])), (o4, .inr (2, [.ref o1, .ref t1_8, .ref t2_8, .int (nI 0), .int (-1)])), (t1_8, .inl (G.2.1, 64, .inl (fun _ => 0))), (t2_8, .inl (G.2.1, 65, .inl (fun _ => 0))), (o5, .inr (6, [.ref o1, .ref t1_10, .ref t2_10, .ref t3_10, .ref t4_10, .int (-1)])), (t1_10, .inl (G.2.1, 128, .inl (fp))), (t2_10, .inl (G.2.1, 128, .inl (lp))), (t3_10, .inl (G.2.1, 128, .inl (fun _ => 0))), (t4_10, .inl (G.2.1, 128, .inl (fun _ => 0)))]) rfl ?_
  refine v_putF F inlX7 (ci := 7) rfl tyX7 tyX7_ok nmX7 4 (by decide) rfl rfl hnm wF_RX7_42 dX7_init_64 (ty := (.object "LineLives$Tree")) (by decide +kernel) rfl rfl 0 rfl (Nat.le_of_ble_eq_true rfl) ([(a, .inr (7, [.ref o1, .ref o2, .ref o3, .ref o4, .ref o5, .null])), (o1, .inr (1, [.ref u1, .int (nI 0), .int (nI 0), .int (nI 0)])), (u1, .inl (G.2.1, 120, .inl (fun _ => 0))), (o2, .inr (0, [.ref u3, .int (nI 0)])), (u3, .inl (G.2.1, 732, .inl (fun _ => 0))), (o3, .inr (5, [.ref t1_6, .ref t2_6, .int (nI 0)])), (t1_6, .inl (G.2.1, 60, .inl (fun _ => 0))), (t2_6, .inr (3, [.int (nI 0), .int (nI 0), .int (bI false), .int (nI 0), .int (nI 0), .int (nI 0)])), (o4, .inr (2, [.ref o1, .ref t1_8, .ref t2_8, .int (nI 0), .int (-1)])), (t1_8, .inl (G.2.1, 64, .inl (fun _ => 0))), (t2_8, .inl (G.2.1, 65, .inl (fun _ => 0))), (o5, .inr (6, [.ref o1, .ref t1_10, .ref t2_10, .ref t3_10, .ref t4_10, .int (-1)])), (t1_10, .inl (G.2.1, 128, .inl (fp))), (t2_10, .inl (G.2.1, 128, .inl (lp))), (t3_10, .inl (G.2.1, 128, .inl (fun _ => 0))), (t4_10, .inl (G.2.1, 128, .inl (fun _ => 0)))]) rfl ?_
  refine v_aload_n F dX7_init_67 0 rfl rfl ?_
  refine v_new F inlX4 (ci := 4) rfl tyX4 tyX4_ok wL_RX7_46 wN_RX4 wI_RX4 [.null, .null, .int 0] (fun j hj => by rcases (show j = 0 ∨ j = 1 ∨ j = 2 by omega) with rfl | rfl | rfl <;> rfl) (Nat.le_of_ble_eq_true rfl) (Nat.le_of_ble_eq_true rfl) dX7_init_68 (fun o6 => ?_)
  refine v_w (w' := [(a, .inr (7, [.ref o1, .ref o2, .ref o3, .ref o4, .ref o5, .null])), (o1, .inr (1, [.ref u1, .int (nI 0), .int (nI 0), .int (nI 0)])), (u1, .inl (G.2.1, 120, .inl (fun _ => 0))), (o2, .inr (0, [.ref u3, .int (nI 0)])), (u3, .inl (G.2.1, 732, .inl (fun _ => 0))), (o3, .inr (5, [.ref t1_6, .ref t2_6, .int (nI 0)])), (t1_6, .inl (G.2.1, 60, .inl (fun _ => 0))), (t2_6, .inr (3, [.int (nI 0), .int (nI 0), .int (bI false), .int (nI 0), .int (nI 0), .int (nI 0)])), (o4, .inr (2, [.ref o1, .ref t1_8, .ref t2_8, .int (nI 0), .int (-1)])), (t1_8, .inl (G.2.1, 64, .inl (fun _ => 0))), (t2_8, .inl (G.2.1, 65, .inl (fun _ => 0))), (o5, .inr (6, [.ref o1, .ref t1_10, .ref t2_10, .ref t3_10, .ref t4_10, .int (-1)])), (t1_10, .inl (G.2.1, 128, .inl (fp))), (t2_10, .inl (G.2.1, 128, .inl (lp))), (t3_10, .inl (G.2.1, 128, .inl (fun _ => 0))), (t4_10, .inl (G.2.1, 128, .inl (fun _ => 0))), (o6, .inr (4, [.null, .null, .int 0]))]) rfl ?_
  refine v_dup F dX7_init_71 rfl ?_
  refine v_aload_n F dX7_init_72 0 rfl rfl ?_
  refine v_get (v := .ref o1) F inlX7 (ci := 7) rfl 0 (by decide) rfl wF_RX7_10 dX7_init_73 0 rfl rfl ?_
  refine v_cI F hNM ci_RX7_48 dX7_init_76 [16] [0, 1, 2, 3, 4, 5, 6, 7, 8, 9, 10, 11, 12, 13, 14, 15] (wc := [(o6, .inr (4, [.null, .null, .int 0]))]) (wr := [(a, .inr (7, [.ref o1, .ref o2, .ref o3, .ref o4, .ref o5, .null])), (o1, .inr (1, [.ref u1, .int (nI 0), .int (nI 0), .int (nI 0)])), (u1, .inl (G.2.1, 120, .inl (fun _ => 0))), (o2, .inr (0, [.ref u3, .int (nI 0)])), (u3, .inl (G.2.1, 732, .inl (fun _ => 0))), (o3, .inr (5, [.ref t1_6, .ref t2_6, .int (nI 0)])), (t1_6, .inl (G.2.1, 60, .inl (fun _ => 0))), (t2_6, .inr (3, [.int (nI 0), .int (nI 0), .int (bI false), .int (nI 0), .int (nI 0), .int (nI 0)])), (o4, .inr (2, [.ref o1, .ref t1_8, .ref t2_8, .int (nI 0), .int (-1)])), (t1_8, .inl (G.2.1, 64, .inl (fun _ => 0))), (t2_8, .inl (G.2.1, 65, .inl (fun _ => 0))), (o5, .inr (6, [.ref o1, .ref t1_10, .ref t2_10, .ref t3_10, .ref t4_10, .int (-1)])), (t1_10, .inl (G.2.1, 128, .inl (fp))), (t2_10, .inl (G.2.1, 128, .inl (lp))), (t3_10, .inl (G.2.1, 128, .inl (fun _ => 0))), (t4_10, .inl (G.2.1, 128, .inl (fun _ => 0)))]) rfl rfl rfl rfl rfl (by decide) (m_X4_init lau G o6 o1) (by decide) rfl rfl (Nat.le_of_ble_eq_true rfl) ⟨(Nat.le_of_ble_eq_true rfl), (Nat.le_of_ble_eq_true rfl)⟩ (fun u11 w12 => ?_)
  refine v_w (w' := [(a, .inr (7, [.ref o1, .ref o2, .ref o3, .ref o4, .ref o5, .null])), (o1, .inr (1, [.ref u1, .int (nI 0), .int (nI 0), .int (nI 0)])), (u1, .inl (G.2.1, 120, .inl (fun _ => 0))), (o2, .inr (0, [.ref u3, .int (nI 0)])), (u3, .inl (G.2.1, 732, .inl (fun _ => 0))), (o3, .inr (5, [.ref t1_6, .ref t2_6, .int (nI 0)])), (t1_6, .inl (G.2.1, 60, .inl (fun _ => 0))), (t2_6, .inr (3, [.int (nI 0), .int (nI 0), .int (bI false), .int (nI 0), .int (nI 0), .int (nI 0)])), (o4, .inr (2, [.ref o1, .ref t1_8, .ref t2_8, .int (nI 0), .int (-1)])), (t1_8, .inl (G.2.1, 64, .inl (fun _ => 0))), (t2_8, .inl (G.2.1, 65, .inl (fun _ => 0))), (o5, .inr (6, [.ref o1, .ref t1_10, .ref t2_10, .ref t3_10, .ref t4_10, .int (-1)])), (t1_10, .inl (G.2.1, 128, .inl (fp))), (t2_10, .inl (G.2.1, 128, .inl (lp))), (t3_10, .inl (G.2.1, 128, .inl (fun _ => 0))), (t4_10, .inl (G.2.1, 128, .inl (fun _ => 0))), (o6, .inr (4, [.ref o1, .ref u11, .int (-1)])), (u11, .inl (G.2.1, 20, .inl (fun _ => 0)))]) rfl ?_
  refine v_putF F inlX7 (ci := 7) rfl tyX7 tyX7_ok nmX7 5 (by decide) rfl rfl hnm wF_RX7_49 dX7_init_79 (ty := (.object "LineLives$Reigns")) (by decide +kernel) rfl rfl 0 rfl (Nat.le_of_ble_eq_true rfl) ([(a, .inr (7, [.ref o1, .ref o2, .ref o3, .ref o4, .ref o5, .ref o6])), (o1, .inr (1, [.ref u1, .int (nI 0), .int (nI 0), .int (nI 0)])), (u1, .inl (G.2.1, 120, .inl (fun _ => 0))), (o2, .inr (0, [.ref u3, .int (nI 0)])), (u3, .inl (G.2.1, 732, .inl (fun _ => 0))), (o3, .inr (5, [.ref t1_6, .ref t2_6, .int (nI 0)])), (t1_6, .inl (G.2.1, 60, .inl (fun _ => 0))), (t2_6, .inr (3, [.int (nI 0), .int (nI 0), .int (bI false), .int (nI 0), .int (nI 0), .int (nI 0)])), (o4, .inr (2, [.ref o1, .ref t1_8, .ref t2_8, .int (nI 0), .int (-1)])), (t1_8, .inl (G.2.1, 64, .inl (fun _ => 0))), (t2_8, .inl (G.2.1, 65, .inl (fun _ => 0))), (o5, .inr (6, [.ref o1, .ref t1_10, .ref t2_10, .ref t3_10, .ref t4_10, .int (-1)])), (t1_10, .inl (G.2.1, 128, .inl (fp))), (t2_10, .inl (G.2.1, 128, .inl (lp))), (t3_10, .inl (G.2.1, 128, .inl (fun _ => 0))), (t4_10, .inl (G.2.1, 128, .inl (fun _ => 0))), (o6, .inr (4, [.ref o1, .ref u11, .int (-1)])), (u11, .inl (G.2.1, 20, .inl (fun _ => 0)))]) rfl ?_
  refine v_pick [0, 1, 3, 5, 8, 11, 16, 7, 2, 4, 9, 10, 12, 13, 14, 15, 17, 6] (w' := [(a, .inr (7, [.ref o1, .ref o2, .ref o3, .ref o4, .ref o5, .ref o6])), (o1, .inr (1, [.ref u1, .int (nI 0), .int (nI 0), .int (nI 0)])), (o2, .inr (0, [.ref u3, .int (nI 0)])), (o3, .inr (5, [.ref t1_6, .ref t2_6, .int (nI 0)])), (o4, .inr (2, [.ref o1, .ref t1_8, .ref t2_8, .int (nI 0), .int (-1)])), (o5, .inr (6, [.ref o1, .ref t1_10, .ref t2_10, .ref t3_10, .ref t4_10, .int (-1)])), (o6, .inr (4, [.ref o1, .ref u11, .int (-1)])), (t2_6, .inr (3, [.int (nI 0), .int (nI 0), .int (bI false), .int (nI 0), .int (nI 0), .int (nI 0)])), (u1, .inl (G.2.1, 120, .inl (fun _ => 0))), (u3, .inl (G.2.1, 732, .inl (fun _ => 0))), (t1_8, .inl (G.2.1, 64, .inl (fun _ => 0))), (t2_8, .inl (G.2.1, 65, .inl (fun _ => 0))), (t1_10, .inl (G.2.1, 128, .inl (fp))), (t2_10, .inl (G.2.1, 128, .inl (lp))), (t3_10, .inl (G.2.1, 128, .inl (fun _ => 0))), (t4_10, .inl (G.2.1, 128, .inl (fun _ => 0))), (u11, .inl (G.2.1, 20, .inl (fun _ => 0))), (t1_6, .inl (G.2.1, 60, .inl (fun _ => 0)))]) rfl rfl rfl ?_
  exact v_vret F hr hlk hQ dX7_init_82 ((lad [a, o1, o2, o3, o4, o5, o6, t2_6, u1, u3, t1_8, t2_8, t1_10, t2_10, t3_10, t4_10, u11, t1_6], fp, lp)) rfl (by exact ⟨rfl, hG⟩)
