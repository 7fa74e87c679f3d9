/-! what holds of both between two calls of the law, and that each call keeps it -/
theorem ROK_eq {T T' : Nat → Int32} {l l' : Nat} (h : ∀ j, j < 6 → T' (l' * 6 + j) = T (l * 6 + j)) (hr : ROK T l) : ROK T' l' := by
  unfold ROK at *
  rw [h 0 (by decide), h 1 (by decide), h 2 (by decide), h 3 (by decide), h 4 (by decide), h 5 (by decide)]
  exact hr
theorem TOK_cong {T T' : Nat → Int32} {n : Nat} (hn : n ≤ 20) (h : ∀ k, k < 120 → T' k = T k) (hT : TOK T n) : TOK T' n := fun l hl => ROK_eq (fun j hj => h _ (by omega)) (hT l hl)
theorem TOK_row {T T' : Nat → Int32} {n l : Nat} (h : ∀ k, (k < l * 6 ∨ l * 6 + 6 ≤ k) → T' k = T k) (hr : ROK T' l) (hT : TOK T n) : TOK T' n := fun l' hl' => by
  by_cases q : l' = l
  · subst q; exact hr
  · exact ROK_eq (fun j hj => h _ (by omega)) (hT l' hl')
theorem ROK_of {T : Nat → Int32} {l a b x y : Nat} (h0 : -99 ≤ (T (l * 6 + 0)).toInt ∧ (T (l * 6 + 0)).toInt ≤ 99) (h1 : -9999 ≤ (T (l * 6 + 1)).toInt ∧ (T (l * 6 + 1)).toInt ≤ 9999) (h2 : T (l * 6 + 2) = nI a) (h3 : T (l * 6 + 3) = nI b) (hab : a ≤ b) (hb : b < 64) (h4 : T (l * 6 + 4) = nI x) (h5 : T (l * 6 + 5) = nI y) (hxy : x ≤ y) (hy : y < 100) : ROK T l := ⟨h0, h1, ⟨a, b, h2, h3, hab, hb⟩, x, y, h4, h5, hxy, hy⟩
theorem TOK_add {T : Nat → Int32} {n a b : Nat} {sl off : Int32} (h : TOK T n) (h1 : -99 ≤ sl.toInt ∧ sl.toInt ≤ 99) (h2 : -9999 ≤ off.toInt ∧ off.toInt ≤ 9999) (hab : a ≤ b) (hb : b < 100) : TOK (pAdd T n sl off (nI a) (nI b)) (n + 1) := fun l hl => by
  rcases Nat.lt_or_ge l n with q | q
  · refine ROK_eq (fun j hj => ?_) (h l q)
    unfold pAdd
    rw [upd_n (by omega), upd_n (by omega), upd_n (by omega), upd_n (by omega), upd_n (by omega), upd_n (by omega)]
  · have e : l = n := by omega
    subst e
    have e0 : pAdd T l sl off (nI a) (nI b) (l * 6 + 0) = sl := by
      unfold pAdd; rw [upd_n (by omega), upd_n (by omega), upd_n (by omega), upd_n (by omega), upd_n (by omega), upd_s]
    have e1 : pAdd T l sl off (nI a) (nI b) (l * 6 + 1) = off := by
      unfold pAdd; rw [upd_n (by omega), upd_n (by omega), upd_n (by omega), upd_n (by omega), upd_s]
    have e2 : pAdd T l sl off (nI a) (nI b) (l * 6 + 2) = nI 0 := by
      unfold pAdd; rw [upd_n (by omega), upd_n (by omega), upd_n (by omega), upd_s]
    have e3 : pAdd T l sl off (nI a) (nI b) (l * 6 + 3) = nI 63 := by
      unfold pAdd; rw [upd_n (by omega), upd_n (by omega), upd_s]
    have e4 : pAdd T l sl off (nI a) (nI b) (l * 6 + 4) = nI a := by
      unfold pAdd; rw [upd_n (by omega), upd_s]
    have e5 : pAdd T l sl off (nI a) (nI b) (l * 6 + 5) = nI b := by
      unfold pAdd; rw [upd_s]
    exact ROK_of (by rw [e0]; exact h1) (by rw [e1]; exact h2) e2 e3 (by decide) (by decide) e4 e5 hab hb
theorem pDrop_at {T : Nat → Int32} {n l k : Nat} : pDrop T n l k = if l * 6 ≤ k ∧ k < l * 6 + (n * 6 - (l + 1) * 6) then T ((l + 1) * 6 + (k - l * 6)) else T k := rfl
theorem TOK_drop {T : Nat → Int32} {n l : Nat} (hl : l < n) (h : TOK T n) : TOK (pDrop T n l) (n - 1) := fun l' hl' => by
  rcases Nat.lt_or_ge l' l with q | q
  · refine ROK_eq (fun j hj => ?_) (h l' (by omega))
    rw [pDrop_at, if_neg (by omega)]
  · refine ROK_eq (l := l' + 1) (fun j hj => ?_) (h (l' + 1) (by omega))
    rw [pDrop_at, if_pos (by omega)]
    congr 1; omega
theorem prS_ok {nv : Int32} {T : Nat → Int32} {n : Nat} (h : TOK T n) : ∀ m, m ≤ n → TOK (prS nv T n m).1 (prS nv T n m).2.1 ∧ ((prS nv T n m).2.2 = 0 → (prS nv T n m).1 = T)
  | 0, _ => ⟨h, fun _ => rfl⟩
  | m + 1, hm => by
    obtain ⟨h1, h2⟩ := prS_ok (nv := nv) h m (by omega)
    have h3 := prS_n nv T n m (by omega)
    unfold prS
    split
    · exact ⟨TOK_drop (by omega) h1, fun q => absurd q (Nat.succ_ne_zero _)⟩
    · exact ⟨h1, h2⟩
theorem inB_int {x : Int32} {a b : Nat} {lo : Int32} (hlo : lo.toInt = -(a : Int)) (hb : b < 2 ^ 31) (h : inB x lo (nI b) = true) : -(a : Int) ≤ x.toInt ∧ x.toInt ≤ b := by
  simp only [inB, Bool.and_eq_true, Bool.not_eq_true', decide_eq_false_iff_not] at h
  obtain ⟨h1, h2⟩ := h
  rw [Int32.lt_iff_toInt_lt] at h1 h2
  rw [nI_toInt hb] at h2
  omega
theorem slB_int {x : Int32} (h : slB x = true) : -99 ≤ x.toInt ∧ x.toInt ≤ 99 := inB_int (a := 99) (b := 99) (by decide) (by decide) h
theorem ofB_int {x : Int32} (h : ofB x = true) : -9999 ≤ x.toInt ∧ x.toInt ≤ 9999 := inB_int (a := 9999) (b := 9999) (by decide) (by decide) h
/-! the saved states -/
def SOK (S : Nat → Int32) (h : Nat) : Prop := ∀ i, i < h → ∃ n' mo' : Nat, S (i * 122 + 1) = nI n' ∧ S (i * 122) = nI mo' ∧ n' ≤ 20 ∧ mo' < 100 ∧ TOK (fun k => S (i * 122 + 2 + k)) n'
theorem pPut_lo {S T : Nat → Int32} {a n mo k : Nat} (h : k < a ∨ a + 122 ≤ k) : pPut S a T n mo k = S k := by
  show (if a + 2 ≤ k ∧ k < a + 2 + 120 then _ else upd (upd S a (nI mo)) (a + 1) (nI n) k) = _
  rw [if_neg (by omega), upd_n (by omega), upd_n (by omega)]
theorem pPut_0 {S T : Nat → Int32} {a n mo : Nat} : pPut S a T n mo a = nI mo := by
  show (if a + 2 ≤ a ∧ a < a + 2 + 120 then _ else upd (upd S a (nI mo)) (a + 1) (nI n) a) = _
  rw [if_neg (by omega), upd_n (by omega), upd_s]
theorem pPut_1 {S T : Nat → Int32} {a n mo : Nat} : pPut S a T n mo (a + 1) = nI n := by
  show (if a + 2 ≤ a + 1 ∧ a + 1 < a + 2 + 120 then _ else upd (upd S a (nI mo)) (a + 1) (nI n) (a + 1)) = _
  rw [if_neg (by omega), upd_s]
theorem pPut_2 {S T : Nat → Int32} {a n mo k : Nat} (h : k < 120) : pPut S a T n mo (a + 2 + k) = T k := by
  show (if a + 2 ≤ a + 2 + k ∧ a + 2 + k < a + 2 + 120 then T (0 + (a + 2 + k - (a + 2))) else _) = _
  rw [if_pos (by omega)]; congr 1; omega
theorem SOK_eq {S S' : Nat → Int32} {i i' : Nat} (h : ∀ k, k < 122 → S' (i' * 122 + k) = S (i * 122 + k)) (hs : ∃ n' mo' : Nat, S (i * 122 + 1) = nI n' ∧ S (i * 122) = nI mo' ∧ n' ≤ 20 ∧ mo' < 100 ∧ TOK (fun k => S (i * 122 + 2 + k)) n') : ∃ n' mo' : Nat, S' (i' * 122 + 1) = nI n' ∧ S' (i' * 122) = nI mo' ∧ n' ≤ 20 ∧ mo' < 100 ∧ TOK (fun k => S' (i' * 122 + 2 + k)) n' := by
  obtain ⟨n', mo', h1, h2, h3, h4, h5⟩ := hs
  refine ⟨n', mo', by rw [h 1 (by decide)]; exact h1, by rw [← Nat.add_zero (i' * 122), h 0 (by decide)]; exact h2, h3, h4, TOK_cong h3 (fun k hk => ?_) h5⟩
  show S' (i' * 122 + 2 + k) = S (i * 122 + 2 + k)
  rw [Nat.add_assoc, Nat.add_assoc]; exact h (2 + k) (by omega)
theorem SOK_put {S T : Nat → Int32} {h n mo : Nat} (hS : SOK S h) (hn : n ≤ 20) (hmo : mo < 100) (hT : TOK T n) : SOK (pPut S (h * 122) T n mo) (h + 1) := fun i hi => by
  rcases Nat.lt_or_ge i h with q | q
  · exact SOK_eq (fun k hk => pPut_lo (by omega)) (hS i q)
  · have e : i = h := by omega
    subst e
    exact ⟨n, mo, pPut_1, pPut_0, hn, hmo, TOK_cong hn (fun k hk => pPut_2 hk) hT⟩
theorem SOK_save {S T : Nat → Int32} {h n mo : Nat} (hh : h ≤ 6) (hS : SOK S h) (hn : n ≤ 20) (hmo : mo < 100) (hT : TOK T n) : SOK (pSave S h T n mo) (pSaveH h) ∧ pSaveH h ≤ 6 := by
  unfold pSave pSaveH
  split
  · exact ⟨SOK_put hS hn hmo hT, by omega⟩
  · have e : h = 6 := by omega
    subst e
    refine ⟨SOK_put (h := 5) (fun i hi => ?_) hn hmo hT, Nat.le_refl _⟩
    refine SOK_eq (i := i + 1) (fun k hk => ?_) (hS (i + 1) (by omega))
    show (if 0 ≤ i * 122 + k ∧ i * 122 + k < 0 + 610 then S (122 + (i * 122 + k - 0)) else _) = _
    rw [if_pos (by omega)]; congr 1; omega
section TXL
variable {d : DT} {co : Nat → Int32} {len : Nat}
end TXL
/-! the state between two calls -/
def LIV (K : Nat) (T : Nat → Int32) (n mo ver : Nat) (S : Nat → Int32) (h : Nat) (P : PT) (Tr : TT) (Rg : RT) (co : Nat → Int32) (len : Nat) (Rd : DT) : Prop :=
  n ≤ 20 ∧ mo < 100 ∧ TOK T n ∧ h ≤ 6 ∧ SOK S h ∧ TXOK co len ∧ DOK Rd ∧ (PCI T n mo ver P ∧ TCI T n mo ver Tr ∧ RCI T n ver Rg) ∧ ver ≤ 200 * K ∧ K ≤ 512
section LIVS
variable {K : Nat} {T : Nat → Int32} {n mo ver : Nat} {S : Nat → Int32} {h : Nat} {P : PT} {Tr : TT} {Rg : RT} {co : Nat → Int32} {len : Nat} {Rd : DT}
theorem LIV.same (H : LIV K T n mo ver S h P Tr Rg co len Rd) (hK : K < 512) : LIV (K + 1) T n mo ver S h P Tr Rg co len Rd := by
  obtain ⟨h1, h2, h3, h4, h5, h6, h7, h8, h9, h10⟩ := H
  exact ⟨h1, h2, h3, h4, h5, h6, h7, h8, by omega, hK⟩
theorem LIV.look {P' : PT} {Tr' : TT} {Rg' : RT} (H : LIV K T n mo ver S h P Tr Rg co len Rd) (hK : K < 512) (h8 : PCI T n mo ver P' ∧ TCI T n mo ver Tr' ∧ RCI T n ver Rg') : LIV (K + 1) T n mo ver S h P' Tr' Rg' co len Rd := by
  obtain ⟨h1, h2, h3, h4, h5, h6, h7, -, h9, h10⟩ := H
  exact ⟨h1, h2, h3, h4, h5, h6, h7, h8, by omega, hK⟩
/-- a change that is saved -/
theorem LIV.save {T' : Nat → Int32} {n' mo' ver' : Nat} (H : LIV K T n mo ver S h P Tr Rg co len Rd) (hK : K < 512) (h1' : n' ≤ 20) (h2' : mo' < 100) (h3' : TOK T' n') (hv : ver < ver') (hv2 : ver' ≤ ver + 200) : LIV (K + 1) T' n' mo' ver' (pSave S h T n mo) (pSaveH h) P Tr Rg co len Rd := by
  obtain ⟨h1, h2, h3, h4, h5, h6, h7, h8, h9, h10⟩ := H
  obtain ⟨g1, g2⟩ := SOK_save h4 h5 h1 h2 h3
  exact ⟨h1', h2', h3', g2, g1, h6, h7, ⟨h8.1.bump hv (by omega), h8.2.1.bump hv (by omega), h8.2.2.bump hv (by omega)⟩, by omega, hK⟩
theorem lr_add {sl off : Int32} (H : LIV K T n mo ver S h P Tr Rg co len Rd) (hK : K < 512) (hc : xAdd n sl off = 0) : LIV (K + 1) (pAdd T n sl off (nI 0) (nI 99)) (n + 1) mo (ver + 6) (pSave S h T n mo) (pSaveH h) P Tr Rg co len Rd := by
  unfold xAdd at hc
  repeat' split at hc
  all_goals first | exact absurd hc (by decide) | skip
  rename_i a1 a2 a3
  have a1 : slB sl = true := by simpa using a1
  have a2 : ofB off = true := by simpa using a2
  exact H.save hK (by omega) H.2.1 (TOK_add H.2.2.1 (slB_int a1) (ofB_int a2) (by decide : 0 ≤ 99) (by decide)) (by omega) (by omega)
theorem xStr_0 {line a b : Int32} {e : Nat} (he : e < 2 ^ 31) (hn : n ≤ 20) (hc : xStr n line a b (nI e) = 0) : ∃ l a' b', l < n ∧ line = nI l ∧ a = nI a' ∧ b = nI b' ∧ a' ≤ b' ∧ b' < e := by
  unfold xStr at hc
  repeat' split at hc
  all_goals first | exact absurd hc (by decide) | skip
  rename_i a1 a2
  obtain ⟨l, h1, h2⟩ := hasB_of (by omega) (by simpa using a1 : hasB n line = true)
  obtain ⟨a', b', h3, h4, h5, h6⟩ := stB_of he (by simpa using a2 : stB a b (nI e) = true)
  exact ⟨l, a', b', h1, h2, h5, h6, h3, h4⟩
theorem lr_span {line a b : Int32} (H : LIV K T n mo ver S h P Tr Rg co len Rd) (hK : K < 512) (hc : xStr n line a b (nI 64) = 0) : LIV (K + 1) (upd (upd T ((line.toNatClampNeg * 6) + 2) a) ((line.toNatClampNeg * 6) + 3) b) n mo (ver + 2) (pSave S h T n mo) (pSaveH h) P Tr Rg co len Rd := by
  have hn := H.1
  obtain ⟨l, a', b', hl, rfl, rfl, rfl, hab, hb⟩ := xStr_0 (by decide) hn hc
  rw [nI_clamp (show l < 2 ^ 31 by omega)]
  refine H.save hK hn H.2.1 (TOK_row (l := l) (fun k hk => by rw [upd_n (by omega), upd_n (by omega)]) ?_ H.2.2.1) (by omega) (by omega)
  obtain ⟨g1, g2, -, x, y, g4, g5, g6, g7⟩ := H.2.2.1 l hl
  refine ROK_of (a := a') (b := b') (x := x) (y := y) ?_ ?_ ?_ ?_ hab hb ?_ ?_ g6 g7
  · rw [upd_n (by omega), upd_n (by omega)]; exact g1
  · rw [upd_n (by omega), upd_n (by omega)]; exact g2
  · rw [upd_n (by omega), upd_s]
  · rw [upd_s]
  · rw [upd_n (by omega), upd_n (by omega)]; exact g4
  · rw [upd_n (by omega), upd_n (by omega)]; exact g5
theorem lr_live {line a b : Int32} (H : LIV K T n mo ver S h P Tr Rg co len Rd) (hK : K < 512) (hc : xStr n line a b (nI 100) = 0) : LIV (K + 1) (upd (upd T ((line.toNatClampNeg * 6) + 4) a) ((line.toNatClampNeg * 6) + 5) b) n mo (ver + 2) (pSave S h T n mo) (pSaveH h) P Tr Rg co len Rd := by
  have hn := H.1
  obtain ⟨l, a', b', hl, rfl, rfl, rfl, hab, hb⟩ := xStr_0 (by decide) hn hc
  rw [nI_clamp (show l < 2 ^ 31 by omega)]
  refine H.save hK hn H.2.1 (TOK_row (l := l) (fun k hk => by rw [upd_n (by omega), upd_n (by omega)]) ?_ H.2.2.1) (by omega) (by omega)
  obtain ⟨g1, g2, ⟨x, y, g4, g5, g6, g7⟩, -⟩ := H.2.2.1 l hl
  refine ROK_of (a := x) (b := y) (x := a') (y := b') ?_ ?_ ?_ ?_ g6 g7 ?_ ?_ hab hb
  · rw [upd_n (by omega), upd_n (by omega)]; exact g1
  · rw [upd_n (by omega), upd_n (by omega)]; exact g2
  · rw [upd_n (by omega), upd_n (by omega)]; exact g4
  · rw [upd_n (by omega), upd_n (by omega)]; exact g5
  · rw [upd_n (by omega), upd_s]
  · rw [upd_s]
theorem lr_lift {line by_ : Int32} (H : LIV K T n mo ver S h P Tr Rg co len Rd) (hK : K < 512) (hc : xLift T n line by_ = 0) : LIV (K + 1) (upd T ((line.toNatClampNeg * 6) + 1) (T (line.toNatClampNeg * 6 + 1) + by_)) n mo (ver + 1) (pSave S h T n mo) (pSaveH h) P Tr Rg co len Rd := by
  have hn := H.1
  unfold xLift at hc
  repeat' split at hc
  all_goals first | exact absurd hc (by decide) | skip
  rename_i a1 a2 a3
  obtain ⟨l, hl, rfl⟩ := hasB_of (by omega) (by simpa using a1 : hasB n line = true)
  rw [nI_clamp (show l < 2 ^ 31 by omega)] at a3 ⊢
  have a3 := ofB_int (by simpa using a3 : ofB _ = true)
  refine H.save hK hn H.2.1 (TOK_row (l := l) (fun k hk => by rw [upd_n (by omega)]) ?_ H.2.2.1) (by omega) (by omega)
  obtain ⟨g1, g2, ⟨x, y, g4, g5, g6, g7⟩, x2, y2, g8, g9, g10, g11⟩ := H.2.2.1 l hl
  refine ROK_of (a := x) (b := y) (x := x2) (y := y2) ?_ ?_ ?_ ?_ g6 g7 ?_ ?_ g10 g11
  · rw [upd_n (by omega)]; exact g1
  · rw [upd_s]; exact a3
  · rw [upd_n (by omega)]; exact g4
  · rw [upd_n (by omega)]; exact g5
  · rw [upd_n (by omega)]; exact g8
  · rw [upd_n (by omega)]; exact g9
theorem lr_turn {line pl sl : Int32} (H : LIV K T n mo ver S h P Tr Rg co len Rd) (hK : K < 512) (hc : xTurn T n line pl sl = 0) : LIV (K + 1) (upd (upd T ((line.toNatClampNeg * 6) + 0) sl) ((line.toNatClampNeg * 6) + 1) (tuV T line pl sl)) n mo (ver + 2) (pSave S h T n mo) (pSaveH h) P Tr Rg co len Rd := by
  have hn := H.1
  unfold xTurn at hc
  repeat' split at hc
  all_goals first | exact absurd hc (by decide) | skip
  rename_i a1 a2 a4 a3
  obtain ⟨l, hl, rfl⟩ := hasB_of (by omega) (by simpa using a1 : hasB n line = true)
  have a3 := ofB_int (by simpa using a3 : ofB _ = true)
  have a4 := slB_int (by simpa using a4 : slB _ = true)
  generalize tuV T (nI l) pl sl = tv at a3 ⊢
  rw [nI_clamp (show l < 2 ^ 31 by omega)]
  refine H.save hK hn H.2.1 (TOK_row (l := l) (fun k hk => by rw [upd_n (by omega), upd_n (by omega)]) ?_ H.2.2.1) (by omega) (by omega)
  obtain ⟨g1, g2, ⟨x, y, g4, g5, g6, g7⟩, x2, y2, g8, g9, g10, g11⟩ := H.2.2.1 l hl
  refine ROK_of (a := x) (b := y) (x := x2) (y := y2) ?_ ?_ ?_ ?_ g6 g7 ?_ ?_ g10 g11
  · rw [upd_n (by omega), upd_s]; exact a4
  · rw [upd_s]; exact a3
  · rw [upd_n (by omega), upd_n (by omega)]; exact g4
  · rw [upd_n (by omega), upd_n (by omega)]; exact g5
  · rw [upd_n (by omega), upd_n (by omega)]; exact g8
  · rw [upd_n (by omega), upd_n (by omega)]; exact g9
theorem lr_remove {line : Int32} (H : LIV K T n mo ver S h P Tr Rg co len Rd) (hK : K < 512) (hc : xRem n line = 0) : LIV (K + 1) (pDrop T n line.toNatClampNeg) (n - 1) mo (ver + 1) (pSave S h T n mo) (pSaveH h) P Tr Rg co len Rd := by
  have hn := H.1
  unfold xRem at hc
  split at hc
  · exact absurd hc (by decide)
  · rename_i a1
    obtain ⟨l, hl, rfl⟩ := hasB_of (by omega) (by simpa using a1 : hasB n line = true)
    rw [nI_clamp (show l < 2 ^ 31 by omega)]
    exact H.save hK (by omega) H.2.1 (TOK_drop hl H.2.2.1) (by omega) (by omega)
theorem lr_go {mm : Int32} (H : LIV K T n mo ver S h P Tr Rg co len Rd) (hK : K < 512) (hc : xGo mm = 0) : LIV (K + 1) T n mm.toNatClampNeg (ver + 1) (pSave S h T n mo) (pSaveH h) P Tr Rg co len Rd := by
  unfold xGo at hc
  split at hc
  · exact absurd hc (by decide)
  · rename_i a1
    obtain ⟨j, hj, rfl⟩ := moB_of (by simpa using a1 : moB mm = true)
    rw [nI_clamp (show j < 2 ^ 31 by omega)]
    exact H.save hK H.1 hj H.2.2.1 (by omega) (by omega)
theorem lr_undo {n' mo' : Nat} (H : LIV K T n mo ver S h P Tr Rg co len Rd) (hK : K < 512) (hc : xUndo h = 0) (hn' : 0 < h → S ((h - 1) * 122 + 1) = nI n') (hmo' : 0 < h → S ((h - 1) * 122) = nI mo') (hn'2 : n' < 2 ^ 31) (hmo'2 : mo' < 2 ^ 31) : LIV (K + 1) (va_cpy S T ((h - 1) * 122 + 2) 0 120) n' mo' (ver + 1) S (h - 1) P Tr Rg co len Rd := by
  obtain ⟨h1, h2, h3, h4, h5, h6, h7, h8, h9, h10⟩ := H
  unfold xUndo at hc
  split at hc
  · exact absurd hc (by decide)
  · obtain ⟨n2, mo2, g1, g2, g3, g4, g5⟩ := h5 (h - 1) (by omega)
    have e1 : n' = n2 := (nI_eq hn'2 (by omega)).mp ((hn' (by omega)).symm.trans g1)
    have e2 : mo' = mo2 := (nI_eq hmo'2 (by omega)).mp ((hmo' (by omega)).symm.trans g2)
    subst e1; subst e2
    refine ⟨g3, g4, TOK_cong g3 (fun k hk => ?_) g5, by omega, fun i hi => h5 i (by omega), h6, h7, ⟨h8.1.bump (by omega) (by omega), h8.2.1.bump (by omega) (by omega), h8.2.2.bump (by omega) (by omega)⟩, by omega, hK⟩
    show (if 0 ≤ k ∧ k < 0 + 120 then S ((h - 1) * 122 + 2 + (k - 0)) else _) = _
    rw [if_pos (by omega)]; rfl
theorem lr_undo_n (H : LIV K T n mo ver S h P Tr Rg co len Rd) : ∃ n' mo' : Nat, (0 < h → S ((h - 1) * 122 + 1) = nI n') ∧ (0 < h → S ((h - 1) * 122) = nI mo') ∧ n' < 2 ^ 31 ∧ mo' < 2 ^ 31 := by
  by_cases q : 0 < h
  · obtain ⟨n2, mo2, g1, g2, g3, g4, g5⟩ := H.2.2.2.2.1 (h - 1) (by omega)
    exact ⟨n2, mo2, fun _ => g1, fun _ => g2, by omega, by omega⟩
  · exact ⟨0, 0, fun z => absurd z q, fun z => absurd z q, by decide, by decide⟩
theorem lr_prune {Rg' : RT} (H : LIV K T n mo ver S h P Tr Rg co len Rd) (hK : K < 512) (hR : RCI T n ver Rg') : LIV (K + 1) (prS (nvr T n n) T n n).1 (prS (nvr T n n) T n n).2.1 mo (ver + (prS (nvr T n n) T n n).2.2) (pSave S h T n mo) (pSaveH h) P Tr Rg' co len Rd := by
  obtain ⟨g1, g2, g3⟩ := prS_n (nvr T n n) T n n (Nat.le_refl _)
  obtain ⟨g4, g5⟩ := prS_ok (nv := nvr T n n) H.2.2.1 n (Nat.le_refl _)
  have hn := H.1
  by_cases q : (prS (nvr T n n) T n n).2.2 = 0
  · obtain ⟨h1, h2, h3, h4, h5, h6, h7, h8, h9, h10⟩ := H
    obtain ⟨s1, s2⟩ := SOK_save h4 h5 h1 h2 h3
    rw [q, g5 q, show (prS (nvr T n n) T n n).2.1 = n by omega]
    exact ⟨h1, h2, h3, s2, s1, h6, h7, ⟨h8.1, h8.2.1, hR⟩, by omega, hK⟩
  · have H' : LIV K T n mo ver S h P Tr Rg' co len Rd := by
      obtain ⟨h1, h2, h3, h4, h5, h6, h7, h8, h9, h10⟩ := H
      exact ⟨h1, h2, h3, h4, h5, h6, h7, ⟨h8.1, h8.2.1, hR⟩, h9, h10⟩
    exact H'.save hK (by omega) H.2.1 g4 (by omega) (by omega)
end LIVS
