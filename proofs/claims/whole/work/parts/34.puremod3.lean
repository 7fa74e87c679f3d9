/-! the model's tree against the class's: a line goes down from each of its nodes -/
def hA (T : Nat → Int32) (l k : Nat) : Bool := decide (T (l * 6 + 2) ≤ nI (gF k)) && decide (nI (gL k) ≤ T (l * 6 + 3))
def wdO (k : Nat) : Nat := 64 / 2 ^ Nat.log2 k
def clI (x : Int32) : Nat := x.toNatClampNeg
def mdO (k : Nat) : Nat := (gF k + gL k) / 2
def gd (T : Nat → Int32) : Nat → Nat → Nat → KS → KS
  | 0, _, _, S => S
  | f + 1, l, k, S =>
    if k = 0 then S
    else if S.1 k = -1 then (upd S.1 k (nI l), upd S.2 k (S.2 k + nI 1))
    else if low T l (clI (S.1 k)) (mdO k) = true then
      (if wdO k = 1 then (upd S.1 k (nI l), upd S.2 k (S.2 k + nI 1))
       else if low T (clI (S.1 k)) l (gF k) = true then gd T f (clI (S.1 k)) (2 * k) (upd S.1 k (nI l), upd S.2 k (S.2 k + nI 1))
       else if low T (clI (S.1 k)) l (gL k) = true then gd T f (clI (S.1 k)) (2 * k + 1) (upd S.1 k (nI l), upd S.2 k (S.2 k + nI 1))
       else (upd S.1 k (nI l), upd S.2 k (S.2 k + nI 1)))
    else
      (if wdO k = 1 then (S.1, upd S.2 k (S.2 k + nI 1))
       else if low T l (clI (S.1 k)) (gF k) = true then gd T f l (2 * k) (S.1, upd S.2 k (S.2 k + nI 1))
       else if low T l (clI (S.1 k)) (gL k) = true then gd T f l (2 * k + 1) (S.1, upd S.2 k (S.2 k + nI 1))
       else (S.1, upd S.2 k (S.2 k + nI 1)))
theorem wd_all : ∀ k, k < 128 → 1 ≤ k → (wdO k = 1 ↔ gF k = gL k) ∧ gF k + wdO k - 1 = gL k ∧ wdO k ≤ 64 ∧ 1 ≤ wdO k ∧ 64 / wdO k ≤ k ∧ (k - 64 / wdO k) * wdO k = gF k := by decide +kernel
/-- the nodes under a node -/
def sbn (k j : Nat) : Prop := ∃ i, j / 2 ^ i = k
theorem sbn_self (k : Nat) : sbn k k := ⟨0, by simp⟩
theorem sbn_up {k j : Nat} (h : sbn (2 * k) j ∨ sbn (2 * k + 1) j) : sbn k j := by
  rcases h with ⟨i, h⟩ | ⟨i, h⟩
  · exact ⟨i + 1, by rw [Nat.pow_succ, ← Nat.div_div_eq_div_mul, h]; omega⟩
  · exact ⟨i + 1, by rw [Nat.pow_succ, ← Nat.div_div_eq_div_mul, h]; omega⟩
theorem sbn_down {k j : Nat} (h : sbn k j) (hne : ¬ j = k) : sbn (2 * k) j ∨ sbn (2 * k + 1) j := by
  obtain ⟨i, h⟩ := h
  rcases i with _ | i
  · exact absurd (by simpa using h) hne
  · rw [Nat.pow_succ, ← Nat.div_div_eq_div_mul] at h
    rcases (show j / 2 ^ i = 2 * k ∨ j / 2 ^ i = 2 * k + 1 by omega) with q | q
    · exact Or.inl ⟨i, q⟩
    · exact Or.inr ⟨i, q⟩
theorem sbn_tr {a b c : Nat} (h : sbn a b) (h2 : sbn b c) : sbn a c := by
  obtain ⟨i, rfl⟩ := h
  obtain ⟨j, rfl⟩ := h2
  exact ⟨j + i, by rw [Nat.pow_add, Nat.div_div_eq_div_mul]⟩
theorem sbn_le {k j : Nat} (h : sbn k j) : k ≤ j := by obtain ⟨i, rfl⟩ := h; exact Nat.div_le_self _ _
theorem sbn_1 {j : Nat} (h : 1 ≤ j) : sbn 1 j := by
  refine ⟨Nat.log2 j, ?_⟩
  have h1 : 2 ^ Nat.log2 j ≤ j := Nat.log2_self_le (by omega)
  have h2 : j < 2 ^ (Nat.log2 j + 1) := Nat.lt_log2_self
  rw [Nat.pow_succ] at h2
  have h3 := Nat.two_pow_pos (Nat.log2 j)
  rw [Nat.div_eq_iff h3]; omega
theorem sbn_half {k c : Nat} (h : sbn k c) (hne : ¬ c = k) : sbn k (c / 2) := by
  obtain ⟨i, h⟩ := h
  rcases i with _ | i
  · exact absurd (by simpa using h) hne
  · exact ⟨i, by rw [Nat.div_div_eq_div_mul, Nat.mul_comm, ← Nat.pow_succ]; exact h⟩
theorem sbn_cmp {a b j : Nat} (h : sbn a j) (h2 : sbn b j) : sbn a b ∨ sbn b a := by
  obtain ⟨i, rfl⟩ := h
  obtain ⟨i', rfl⟩ := h2
  rcases Nat.le_total i i' with q | q
  · right; exact ⟨i' - i, by rw [Nat.div_div_eq_div_mul, ← Nat.pow_add]; congr 2; omega⟩
  · left; exact ⟨i - i', by rw [Nat.div_div_eq_div_mul, ← Nat.pow_add]; congr 2; omega⟩
theorem sbn_dis {k j : Nat} (hk : 1 ≤ k) (h : sbn (2 * k) j) (h2 : sbn (2 * k + 1) j) : False := by
  rcases sbn_cmp h h2 with q | q
  · have := sbn_le q
    have := sbn_half q (by omega)
    have := sbn_le this
    omega
  · have := sbn_le q; omega
section GD
variable {T : Nat → Int32} {n : Nat}
def atk (S : KS) (j : Nat) : Int32 × Int32 := (S.1 j, S.2 j)
theorem atk_1 {S : KS} {k j : Nat} {v w : Int32} (h : ¬ j = k) : atk (upd S.1 k v, upd S.2 k w) j = atk S j := by simp only [atk, upd_n h]
theorem atk_2 {S : KS} {k j : Nat} {w : Int32} (h : ¬ j = k) : atk (S.1, upd S.2 k w) j = atk S j := by simp only [atk, upd_n h]
theorem gd_loc : ∀ (f l k : Nat) (S : KS) (j : Nat), ¬ sbn k j → atk (gd T f l k S) j = atk S j
  | 0, _, _, _, _, _ => rfl
  | f + 1, l, k, S, j, h => by
    have hk : ¬ j = k := fun q => h (q ▸ sbn_self k)
    have h1 : ¬ sbn (2 * k) j := fun q => h (sbn_up (Or.inl q))
    have h2 : ¬ sbn (2 * k + 1) j := fun q => h (sbn_up (Or.inr q))
    unfold gd
    repeat' split
    all_goals first
      | rfl
      | exact atk_1 hk
      | exact atk_2 hk
      | (rw [gd_loc f _ _ _ j h1]; first | exact atk_1 hk | exact atk_2 hk)
      | (rw [gd_loc f _ _ _ j h2]; first | exact atk_1 hk | exact atk_2 hk)
def agr (k : Nat) (S S' : KS) : Prop := ∀ j, sbn k j → atk S j = atk S' j
theorem agr_u1 {k c : Nat} {S S' : KS} (h : agr c S S') (hc : sbn c k) (v : Int32) : agr c (upd S.1 k v, upd S.2 k (S.2 k + nI 1)) (upd S'.1 k v, upd S'.2 k (S'.2 k + nI 1)) := fun j hj => by
  have e := h k hc
  simp only [atk, Prod.mk.injEq] at e
  by_cases q : j = k
  · subst q; simp only [atk, upd_s, e.2]
  · rw [atk_1 q, atk_1 q]; exact h j hj
theorem agr_u2 {k c : Nat} {S S' : KS} (h : agr c S S') (hc : sbn c k) : agr c (S.1, upd S.2 k (S.2 k + nI 1)) (S'.1, upd S'.2 k (S'.2 k + nI 1)) := fun j hj => by
  have e := h k hc
  simp only [atk, Prod.mk.injEq] at e
  by_cases q : j = k
  · subst q; simp only [atk, upd_s, e.1, e.2]
  · rw [atk_2 q, atk_2 q]; exact h j hj
theorem agr_sub {k c : Nat} {S S' : KS} (h : agr k S S') (hc : sbn k c) : agr c S S' := fun j hj => h j (sbn_tr hc hj)
/-- two states that agree under a node agree there after a line went down from a node at or under it -/
theorem gd_dep : ∀ (f l k c : Nat) (S S' : KS), agr c S S' → sbn c k → agr c (gd T f l k S) (gd T f l k S')
  | 0, _, _, _, _, _, h, _ => h
  | f + 1, l, k, c, S, S', h, hc => by
    have e : S'.1 k = S.1 k := (congrArg Prod.fst (h k hc)).symm
    have h1 : sbn c (2 * k) := sbn_tr hc (sbn_up (Or.inl (sbn_self _)))
    have h2 : sbn c (2 * k + 1) := sbn_tr hc (sbn_up (Or.inr (sbn_self _)))
    unfold gd
    rw [e]
    repeat' split
    all_goals first
      | exact h
      | exact agr_u1 h hc _
      | exact agr_u2 h hc
      | exact gd_dep f _ _ c _ _ (agr_u1 h hc _) h1
      | exact gd_dep f _ _ c _ _ (agr_u1 h hc _) h2
      | exact gd_dep f _ _ c _ _ (agr_u2 h hc) h1
      | exact gd_dep f _ _ c _ _ (agr_u2 h hc) h2
theorem gd_0 {f l : Nat} {S : KS} : gd T f l 0 S = S := by
  cases f with
  | zero => rfl
  | succ f => rw [gd, if_pos rfl]
theorem gd_eq (f l k : Nat) (S : KS) : gd T (f + 1) l k S =
    if k = 0 then S
    else if S.1 k = -1 then (upd S.1 k (nI l), upd S.2 k (S.2 k + nI 1))
    else if low T l (clI (S.1 k)) (mdO k) = true then
      (if wdO k = 1 then (upd S.1 k (nI l), upd S.2 k (S.2 k + nI 1))
       else if low T (clI (S.1 k)) l (gF k) = true then gd T f (clI (S.1 k)) (2 * k) (upd S.1 k (nI l), upd S.2 k (S.2 k + nI 1))
       else if low T (clI (S.1 k)) l (gL k) = true then gd T f (clI (S.1 k)) (2 * k + 1) (upd S.1 k (nI l), upd S.2 k (S.2 k + nI 1))
       else (upd S.1 k (nI l), upd S.2 k (S.2 k + nI 1)))
    else
      (if wdO k = 1 then (S.1, upd S.2 k (S.2 k + nI 1))
       else if low T l (clI (S.1 k)) (gF k) = true then gd T f l (2 * k) (S.1, upd S.2 k (S.2 k + nI 1))
       else if low T l (clI (S.1 k)) (gL k) = true then gd T f l (2 * k + 1) (S.1, upd S.2 k (S.2 k + nI 1))
       else (S.1, upd S.2 k (S.2 k + nI 1))) := rfl
theorem gd_fuel : ∀ (f l k : Nat) (S : KS), k ≤ 127 → 128 ≤ k * 2 ^ f → gd T (f + 1) l k S = gd T f l k S
  | 0, _, _, _, hk, h => by omega
  | f + 1, l, k, S, hk, h => by
    have e : k * 2 ^ (f + 1) = 2 * k * 2 ^ f := by rw [Nat.pow_succ, Nat.mul_comm (2 ^ f) 2, ← Nat.mul_assoc, Nat.mul_comm k 2]
    have k1 : 128 ≤ 2 * k * 2 ^ f := by omega
    have k2 : 128 ≤ (2 * k + 1) * 2 ^ f := Nat.le_trans k1 (Nat.mul_le_mul_right _ (by omega))
    by_cases h0 : k = 0
    · subst h0; rw [gd_0, gd_0]
    · have hw := wd_all k (by omega) (by omega)
      have hg := geo_all k (by omega) (by omega)
      by_cases h64 : 64 ≤ k
      · have hw1 : wdO k = 1 := hw.1.mpr (hg.2.2.1.mpr h64)
        rw [gd_eq (f + 1) l k S, gd_eq f l k S]; simp only [if_pos hw1]
      · rw [gd_eq (f + 1) l k S, gd_eq f l k S, gd_fuel f _ (2 * k) _ (by omega) k1, gd_fuel f _ (2 * k) _ (by omega) k1, gd_fuel f _ (2 * k + 1) _ (by omega) k2, gd_fuel f _ (2 * k + 1) _ (by omega) k2]
theorem gd_8 : ∀ (m f l k : Nat) (S : KS), f + m = 8 → k ≤ 127 → 128 ≤ k * 2 ^ f → gd T f l k S = gd T 8 l k S
  | 0, f, l, k, S, h, _, _ => by rw [show f = 8 by omega]
  | m + 1, f, l, k, S, h, hk, hf => by
    rw [← gd_fuel f l k S hk hf]
    exact gd_8 m (f + 1) l k S (by omega) hk (Nat.le_trans hf (Nat.mul_le_mul_left k (Nat.pow_le_pow_right (by decide) (by omega))))
/-- what nodes keep covers them -/
def KCV (T : Nat → Int32) (n : Nat) (ke : Nat → Int32) : Prop := ∀ j, 1 ≤ j → j ≤ 127 → ∀ g, g < n → ke j = nI g → hA T g j = true
theorem KCV_upd {ke : Nat → Int32} {k l : Nat} (hn : n ≤ 20) (h : KCV T n ke) (hl : l < n) (hA_ : hA T l k = true) : KCV T n (upd ke k (nI l)) := fun j h1 h2 g hg e => by
  by_cases q : j = k
  · subst q
    rw [upd_s] at e
    rw [← (nI_eq (by omega) (by omega)).mp e]; exact hA_
  · rw [upd_n q] at e; exact h j h1 h2 g hg e
theorem hA_kid {l k : Nat} (h1 : 1 ≤ k) (h2 : k < 64) (h : hA T l k = true) : hA T l (2 * k) = true ∧ hA T l (2 * k + 1) = true := by
  simp only [hA, Bool.and_eq_true, decide_eq_true_eq] at h ⊢
  obtain ⟨g0, g1, -, g2⟩ := geo_all k (by omega) h1
  obtain ⟨e1, e2, e3, e4⟩ := g2 h2
  rw [e1, e2, e3, e4]
  refine ⟨⟨h.1, Int32.le_trans ((nI_leI (by omega) (by omega)).mpr (by omega)) h.2⟩, Int32.le_trans h.1 ((nI_leI (by omega) (by omega)).mpr (by omega)), h.2⟩
theorem gd_inv (hn : n ≤ 20) : ∀ (f l k : Nat) (S : KS), l < n → (k = 0 ∨ 1 ≤ k ∧ k ≤ 127 ∧ hA T l k = true) → KOK S.1 n → KCV T n S.1 → KOK (gd T f l k S).1 n ∧ KCV T n (gd T f l k S).1
  | 0, _, _, _, _, _, h, hc => ⟨h, hc⟩
  | f + 1, l, k, S, hl, hk, h, hc => by
    rcases hk with rfl | ⟨k1, k2, hk⟩
    · rw [gd_0]; exact ⟨h, hc⟩
    have ih := gd_inv hn f
    have a1 : KOK (upd S.1 k (nI l)) n ∧ KCV T n (upd S.1 k (nI l)) := ⟨KOK_upd h hl, KCV_upd hn hc hl hk⟩
    have hw := wd_all k (by omega) k1
    have hg := geo_all k (by omega) k1
    unfold gd
    rw [if_neg (by omega)]
    split
    · exact a1
    · rename_i hne
      obtain ⟨g, hgn, e⟩ := KOK_at h (by omega) hne
      have ecl : clI (S.1 k) = g := by rw [e]; exact nI_clamp (by omega)
      have hgk := hc k k1 k2 g hgn e
      rw [ecl]
      have hkid : wdO k ≠ 1 → k < 64 := fun q => Nat.lt_of_not_le (fun w => q (hw.1.mpr (hg.2.2.1.mpr w)))
      split
      · split
        · exact a1
        · rename_i q
          have := hkid q
          split
          · exact ih g _ _ hgn (Or.inr ⟨by omega, by omega, (hA_kid k1 this hgk).1⟩) a1.1 a1.2
          · split
            · exact ih g _ _ hgn (Or.inr ⟨by omega, by omega, (hA_kid k1 this hgk).2⟩) a1.1 a1.2
            · exact a1
      · split
        · exact ⟨h, hc⟩
        · rename_i q
          have := hkid q
          split
          · exact ih l _ _ hl (Or.inr ⟨by omega, by omega, (hA_kid k1 this hk).1⟩) h hc
          · split
            · exact ih l _ _ hl (Or.inr ⟨by omega, by omega, (hA_kid k1 this hk).2⟩) h hc
            · exact ⟨h, hc⟩
theorem hA_full {l k : Nat} (hk : 1 ≤ k) (hk2 : k ≤ 127) (h : hA T l k = true) : ¬ (T (l * 6 + 3) < nI (gF k) ∨ ¬ T (l * 6 + 2) ≤ nI (gL k)) ∧ ¬ (nI (gF k) < T (l * 6 + 2) ∨ ¬ nI (gL k) ≤ T (l * 6 + 3)) := by
  simp only [hA, Bool.and_eq_true, decide_eq_true_eq] at h
  obtain ⟨g0, g1, -⟩ := geo_all k (by omega) hk
  have h3 : nI (gF k) ≤ nI (gL k) := (nI_leI (by omega) (by omega)).mpr g0
  refine ⟨fun q => ?_, fun q => ?_⟩
  · rcases q with q | q
    · exact Int32.not_le.mpr q (Int32.le_trans h3 h.2)
    · exact q (Int32.le_trans h.1 h3)
  · rcases q with q | q
    · exact Int32.not_le.mpr q h.1
    · exact q h.2
theorem tPut_gd (hn : n ≤ 20) : ∀ (f l k : Nat) (S : KS), l < n → 1 ≤ k → k ≤ 127 → hA T l k = true → KOK S.1 n → KCV T n S.1 → tPut T f l k S = gd T f l k S
  | 0, _, _, _, _, _, _, _, _, _ => rfl
  | f + 1, l, k, S, hl, k1, k2, hk, h, hc => by
    have ih := tPut_gd hn f
    have hw := wd_all k (by omega) k1
    have hg := geo_all k (by omega) k1
    obtain ⟨f1, f2⟩ := hA_full k1 k2 hk
    have a1 : KOK (upd S.1 k (nI l)) n := KOK_upd h hl
    have a2 : KCV T n (upd S.1 k (nI l)) := KCV_upd hn hc hl hk
    rw [tPut, gd_eq, if_neg (show ¬ (k < 1 ∨ 127 < k) by omega), if_neg f1, if_neg f2, if_neg (show ¬ k = 0 by omega)]
    by_cases hne : S.1 k = -1
    · rw [if_pos hne, if_pos hne]
    rw [if_neg hne, if_neg hne]
    obtain ⟨g, hgn, e⟩ := KOK_at h (by omega) hne
    have ecl : clI (S.1 k) = g := by rw [e]; exact nI_clamp (by omega)
    have ecl2 : (S.1 k).toNatClampNeg = g := ecl
    have hgk := hc k k1 k2 g hgn e
    rw [ecl, ecl2]
    by_cases h64 : gF k = gL k
    · have hw1 := hw.1.mpr h64
      simp only [if_pos h64, if_pos hw1]; rfl
    · have hw1 : ¬ wdO k = 1 := fun q => h64 (hw.1.mp q)
      have hk64 : k < 64 := Nat.lt_of_not_le (fun w => h64 (hg.2.2.1.mpr w))
      have hg2 := hA_kid k1 hk64 hgk
      have hl2 := hA_kid k1 hk64 hk
      simp only [if_neg h64, if_neg hw1]
      rw [ih g (2 * k) _ hgn (by omega) (by omega) hg2.1 a1 a2, ih g (2 * k + 1) _ hgn (by omega) (by omega) hg2.2 a1 a2, ih l (2 * k) (S.1, upd S.2 k (S.2 k + nI 1)) hl (by omega) (by omega) hl2.1 h hc, ih l (2 * k + 1) (S.1, upd S.2 k (S.2 k + nI 1)) hl (by omega) (by omega) hl2.2 h hc]
      rfl
/-- a node all of whose places a line has, its parent not -/
def canB (T : Nat → Int32) (l c : Nat) : Prop := 1 ≤ c ∧ c ≤ 127 ∧ hA T l c = true ∧ (c = 1 ∨ hA T l (c / 2) = false)
theorem hA_sub {l k : Nat} (hk : 1 ≤ k) (h : hA T l k = true) : ∀ (i c : Nat), c / 2 ^ i = k → c ≤ 127 → hA T l c = true
  | 0, c, e, _ => by rw [show c = k by simpa using e]; exact h
  | i + 1, c, e, hc => by
    have e2 : c / 2 / 2 ^ i = k := by rw [Nat.div_div_eq_div_mul, Nat.mul_comm, ← Nat.pow_succ]; exact e
    have ih := hA_sub hk h i (c / 2) e2 (by omega)
    have h0 : 1 ≤ c / 2 := by
      rcases Nat.eq_zero_or_pos (c / 2) with q | q
      · rw [q] at e2; simp at e2; omega
      · exact q
    have := hA_kid h0 (by omega) ih
    rcases (show c = 2 * (c / 2) ∨ c = 2 * (c / 2) + 1 by omega) with q | q
    · rw [q]; exact this.1
    · rw [q]; exact this.2
theorem can_un {l c c' j : Nat} (h : canB T l c) (h' : canB T l c') (s : sbn c j) (s' : sbn c' j) : c = c' := by
  have key : ∀ a b, canB T l a → canB T l b → sbn a b → a = b := fun a b ha hb hs => by
    by_cases q : b = a
    · exact q.symm
    · obtain ⟨i, hi⟩ := sbn_half hs q
      rcases hb.2.2.2 with r | r
      · have := sbn_le hs
        have := ha.1
        omega
      · have := hA_sub ha.1 ha.2.2.1 i (b / 2) hi (by have := hb.2.1; omega)
        rw [r] at this; cases this
  rcases sbn_cmp s s' with q | q
  · exact key c c' h h' q
  · exact (key c' c h' h q).symm
def mN (T : Nat → Int32) (l : Nat) (S : KS) : Nat → KS
  | 0 => S
  | k + 1 => if 1 ≤ k ∧ hA T l k = true ∧ (k = 1 ∨ hA T l (k / 2) = false) then gd T 8 l k (mN T l S k) else mN T l S k
theorem mN_at (l : Nat) (S : KS) (j : Nat) : ∀ m, m ≤ 128 → (∀ c, c < m → canB T l c → sbn c j → atk (mN T l S m) j = atk (gd T 8 l c S) j) ∧ ((∀ c, c < m → canB T l c → ¬ sbn c j) → atk (mN T l S m) j = atk S j)
  | 0, _ => ⟨fun c h => absurd h (Nat.not_lt_zero c), fun _ => rfl⟩
  | m + 1, hm => by
    have ih := mN_at l S j m (by omega)
    by_cases hc : 1 ≤ m ∧ hA T l m = true ∧ (m = 1 ∨ hA T l (m / 2) = false)
    · have hcan : canB T l m := ⟨hc.1, by omega, hc.2⟩
      rw [mN, if_pos hc]
      have hag : agr m (mN T l S m) S := fun i hi => (mN_at l S i m (by omega)).2 (fun c h1 h2 h3 => by have := can_un h2 hcan h3 hi; omega)
      by_cases hs : sbn m j
      · have e := gd_dep (T := T) 8 l m m _ _ hag (sbn_self m) j hs
        refine ⟨fun c h1 h2 h3 => ?_, fun h => absurd hs (h m (by omega) hcan)⟩
        rw [can_un h2 hcan h3 hs]; exact e
      · rw [gd_loc 8 l m _ j hs]
        refine ⟨fun c h1 h2 h3 => ?_, fun h => ih.2 (fun c h1 => h c (by omega))⟩
        rcases Nat.lt_or_ge c m with q | q
        · exact ih.1 c q h2 h3
        · exact absurd (show sbn m j by rw [show m = c by omega]; exact h3) hs
    · rw [mN, if_neg hc]
      refine ⟨fun c h1 h2 h3 => ?_, fun h => ih.2 (fun c h1 => h c (by omega))⟩
      rcases Nat.lt_or_ge c m with q | q
      · exact ih.1 c q h2 h3
      · have e : c = m := by omega
        subst e
        exact absurd ⟨h2.1, h2.2.2⟩ hc
theorem sbn_geo : ∀ (i k c : Nat), 1 ≤ k → c / 2 ^ i = k → c ≤ 127 → gF k ≤ gF c ∧ gL c ≤ gL k
  | 0, k, c, _, e, _ => by rw [show c = k by simpa using e]; exact ⟨Nat.le_refl _, Nat.le_refl _⟩
  | i + 1, k, c, hk, e, hc => by
    have e2 : c / 2 / 2 ^ i = k := by rw [Nat.div_div_eq_div_mul, Nat.mul_comm, ← Nat.pow_succ]; exact e
    have ih := sbn_geo i k (c / 2) hk e2 (by omega)
    have h0 : 1 ≤ c / 2 := by
      rcases Nat.eq_zero_or_pos (c / 2) with q | q
      · rw [q] at e2; simp at e2; omega
      · exact q
    obtain ⟨g0, g1, -, g2⟩ := geo_all (c / 2) (by omega) h0
    obtain ⟨e1, e2', e3, e4⟩ := g2 (by omega)
    rcases (show c = 2 * (c / 2) ∨ c = 2 * (c / 2) + 1 by omega) with q | q
    · rw [q, e1, e2']; omega
    · rw [q, e3, e4]; omega
theorem tPut_at (hn : n ≤ 20) (hT : TOK T n) (j : Nat) : ∀ (f l k : Nat) (S : KS), l < n → 1 ≤ k → 128 ≤ k * 2 ^ f → (∀ i, 1 ≤ i → 1 ≤ k / 2 ^ i → hA T l (k / 2 ^ i) = false) → f ≤ 8 → KOK S.1 n → KCV T n S.1 →
    (KOK (tPut T f l k S).1 n ∧ KCV T n (tPut T f l k S).1) ∧ (∀ c, canB T l c → sbn k c → sbn c j → atk (tPut T f l k S) j = atk (gd T 8 l c S) j) ∧ ((∀ c, canB T l c → sbn k c → ¬ sbn c j) → atk (tPut T f l k S) j = atk S j)
  | 0, l, k, S, hl, k1, hf, hp, hf8, hK, hC => ⟨⟨hK, hC⟩, fun c h1 h2 _ => by have := sbn_le h2; have := h1.2.1; omega, fun _ => rfl⟩
  | f + 1, l, k, S, hl, k1, hf, hp, hf8, hK, hC => by
    obtain ⟨-, -, ⟨a, b, ea, eb, hab, hb⟩, -⟩ := hT l hl
    by_cases hk2 : 127 < k
    · rw [tPut, if_pos (Or.inr hk2)]
      exact ⟨⟨hK, hC⟩, fun c h1 h2 _ => by have := sbn_le h2; have := h1.2.1; omega, fun _ => rfl⟩
    have k2 : k ≤ 127 := by omega
    have hg := geo_all k (by omega) k1
    have e1 : T (l * 6 + 3) < nI (gF k) ↔ b < gF k := by rw [eb]; exact nI_ltI (by omega) (by omega)
    have e2 : T (l * 6 + 2) ≤ nI (gL k) ↔ a ≤ gL k := by rw [ea]; exact nI_leI (by omega) (by omega)
    have e3 : nI (gF k) < T (l * 6 + 2) ↔ gF k < a := by rw [ea]; exact nI_ltI (by omega) (by omega)
    have e4 : nI (gL k) ≤ T (l * 6 + 3) ↔ gL k ≤ b := by rw [eb]; exact nI_leI (by omega) (by omega)
    have hAn : ∀ c, 1 ≤ c → c ≤ 127 → (hA T l c = true ↔ a ≤ gF c ∧ gL c ≤ b) := fun c c1 c2 => by
      have gc := geo_all c (by omega) c1
      simp only [hA, Bool.and_eq_true, decide_eq_true_eq]
      rw [ea, eb, nI_leI (by omega) (by omega), nI_leI (by omega) (by omega)]
    by_cases hno : b < gF k ∨ gL k < a
    · have et : tPut T (f + 1) l k S = S := by
        rw [tPut, if_neg (by omega), if_pos (by rw [e1, e2]; omega)]
      rw [et]
      refine ⟨⟨hK, hC⟩, fun c h1 h2 _ => ?_, fun _ => rfl⟩
      obtain ⟨i, hi⟩ := h2
      have g1 := sbn_geo i k c k1 hi h1.2.1
      have g2 := (hAn c h1.1 h1.2.1).mp h1.2.2.1
      have g3 := geo_all c (by have := h1.2.1; omega) h1.1
      omega
    by_cases hfu : hA T l k = true
    · have hcan : canB T l k := by
        refine ⟨k1, k2, hfu, ?_⟩
        by_cases q : k = 1
        · exact Or.inl q
        · right
          have := hp 1 (Nat.le_refl _) (by rw [Nat.pow_one]; omega)
          rw [Nat.pow_one] at this; exact this
      have et : tPut T (f + 1) l k S = gd T 8 l k S := by
        rw [tPut_gd hn (f + 1) l k S hl k1 k2 hfu hK hC]
        exact gd_8 (7 - f) (f + 1) l k S (by omega) k2 hf
      rw [et]
      refine ⟨gd_inv hn 8 l k S hl (Or.inr ⟨k1, k2, hfu⟩) hK hC, fun c h1 h2 h3 => ?_, fun h => gd_loc 8 l k S j (h k hcan (sbn_self k))⟩
      rw [can_un h1 hcan h3 (sbn_tr h2 h3)]
    · have hnf : ¬ (a ≤ gF k ∧ gL k ≤ b) := fun q => hfu ((hAn k k1 k2).mpr q)
      have h64 : k < 64 := by
        rcases Nat.lt_or_ge k 64 with q | q
        · exact q
        · have := hg.2.2.1.mpr q
          omega
      have ep : k * 2 ^ (f + 1) = 2 * k * 2 ^ f := by rw [Nat.pow_succ, Nat.mul_comm (2 ^ f) 2, ← Nat.mul_assoc, Nat.mul_comm k 2]
      have p1 : 128 ≤ 2 * k * 2 ^ f := by omega
      have p2 : 128 ≤ (2 * k + 1) * 2 ^ f := Nat.le_trans p1 (Nat.mul_le_mul_right _ (by omega))
      have hpk : ∀ k', k' / 2 = k → ∀ i, 1 ≤ i → 1 ≤ k' / 2 ^ i → hA T l (k' / 2 ^ i) = false := fun k' hk' i hi h1 => by
        obtain ⟨i, rfl⟩ : ∃ i', i = i' + 1 := ⟨i - 1, by omega⟩
        have ee : k' / 2 ^ (i + 1) = k / 2 ^ i := by rw [Nat.pow_succ, Nat.mul_comm, ← Nat.div_div_eq_div_mul, hk']
        rw [ee] at h1 ⊢
        rcases Nat.eq_zero_or_pos i with q | q
        · subst q; simpa using hfu
        · exact hp i q h1
      have et : tPut T (f + 1) l k S = tPut T f l (2 * k + 1) (tPut T f l (2 * k) S) := by
        rw [tPut, if_neg (by omega), if_neg (by rw [e1, e2]; omega), if_pos (by rw [e3, e4]; omega)]
      have A := fun j => tPut_at hn hT j f l (2 * k) S hl (by omega) p1 (hpk (2 * k) (by omega)) (by omega) hK hC
      obtain ⟨⟨hK1, hC1⟩, -⟩ := A j
      have B := tPut_at hn hT j f l (2 * k + 1) (tPut T f l (2 * k) S) hl (by omega) p2 (hpk (2 * k + 1) (by omega)) (by omega) hK1 hC1
      rw [et]
      refine ⟨B.1, fun c h1 h2 h3 => ?_, fun h => ?_⟩
      · have hck : ¬ c = k := fun q => hfu (q ▸ h1.2.2.1)
        rcases sbn_down h2 hck with q | q
        · rw [B.2.2 (fun c' _ s1 s2 => sbn_dis k1 (sbn_tr q h3) (sbn_tr s1 s2))]
          exact (A j).2.1 c h1 q h3
        · rw [B.2.1 c h1 q h3]
          refine gd_dep (T := T) 8 l c c _ _ (fun i hi => ?_) (sbn_self c) j h3
          exact (A i).2.2 (fun c' _ s1 s2 => sbn_dis k1 (sbn_tr s1 s2) (sbn_tr q hi))
      · rw [B.2.2 (fun c h1 h2 => h c h1 (sbn_tr (sbn_up (Or.inr (sbn_self _))) h2))]
        exact (A j).2.2 (fun c h1 h2 => h c h1 (sbn_tr (sbn_up (Or.inl (sbn_self _))) h2))
theorem tree_eq (hn : n ≤ 20) (hT : TOK T n) {l : Nat} (hl : l < n) {S : KS} (hK : KOK S.1 n) (hC : KCV T n S.1) : mN T l S 128 = tPut T 7 l 1 S ∧ KOK (tPut T 7 l 1 S).1 n ∧ KCV T n (tPut T 7 l 1 S).1 := by
  have hp : ∀ i, 1 ≤ i → 1 ≤ 1 / 2 ^ i → hA T l (1 / 2 ^ i) = false := fun i hi h => by
    have : 1 < 2 ^ i := Nat.one_lt_two_pow (by omega)
    rw [Nat.div_eq_of_lt this] at h; omega
  have A := fun j => tPut_at hn hT j 7 l 1 S hl (Nat.le_refl _) (by decide) hp (by decide) hK hC
  refine ⟨?_, (A 0).1⟩
  have key : ∀ j, atk (mN T l S 128) j = atk (tPut T 7 l 1 S) j := fun j => by
    have M := mN_at (T := T) l S j 128 (Nat.le_refl _)
    by_cases h : ∃ c, canB T l c ∧ sbn c j
    · obtain ⟨c, h1, h2⟩ := h
      rw [M.1 c (by have := h1.2.1; omega) h1 h2, (A j).2.1 c h1 (sbn_1 h1.1) h2]
    · rw [M.2 (fun c _ h1 h2 => h ⟨c, h1, h2⟩), (A j).2.2 (fun c h1 _ h2 => h ⟨c, h1, h2⟩)]
  refine Prod.ext (funext fun j => congrArg Prod.fst (key j)) (funext fun j => congrArg Prod.snd (key j))
end GD
