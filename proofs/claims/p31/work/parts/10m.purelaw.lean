/-! p31: what the law says of the lines, of plain functions -/
section LBX
variable {T : Nat → Int32} {x t n mo : Nat} {out : Int32}
theorem nI_neO {i : Nat} (h : i < 2 ^ 31) : ¬ nI i = (-1 : Int32) := nI_ne1 h
/-- what the lowest line is -/
def LBS (T : Nat → Int32) (x t : Nat) (out : Int32) (i : Nat) : Option Nat → Prop
  | none => ∀ j, j < i → ¬ nI j = out → cnt T j x t = false
  | some g => g < i ∧ ¬ nI g = out ∧ cnt T g x t = true ∧ ∀ j, j < i → ¬ nI j = out → cnt T j x t = true → (pVal T g x).toInt < (pVal T j x).toInt ∨ ((pVal T g x).toInt = (pVal T j x).toInt ∧ g ≤ j)
theorem lb_spec (T : Nat → Int32) (x t : Nat) (out : Int32) : ∀ i, LBS T x t out i (lb T x t out i)
  | 0 => fun j hj => absurd hj (Nat.not_lt_zero j)
  | i + 1 => by
    have ih := lb_spec T x t out i
    have keep : (¬ nI i = out → cnt T i x t = false) → LBS T x t out (i + 1) (lb T x t out i) := fun hq => by
      revert ih
      cases lb T x t out i with
      | none =>
        intro ih j hj ho
        rcases Nat.lt_or_ge j i with q | q
        · exact ih j q ho
        · have e : j = i := by omega
          subst e; exact hq ho
      | some g =>
        intro ih
        obtain ⟨h1, h2, h3, h4⟩ := ih
        refine ⟨by omega, h2, h3, fun j hj ho hc => ?_⟩
        rcases Nat.lt_or_ge j i with q | q
        · exact h4 j q ho hc
        · have e : j = i := by omega
          subst e; rw [hq ho] at hc; cases hc
    rw [lb]
    split
    · rename_i h; exact keep (fun q => absurd h q)
    · rename_i h
      split
      · rename_i hc; exact keep (fun _ => hc)
      · rename_i hc
        have hc : cnt T i x t = true := by simpa using hc
        revert ih
        cases lb T x t out i with
        | none =>
          intro ih
          refine ⟨Nat.lt_succ_self i, h, hc, fun j hj ho hcj => ?_⟩
          rcases Nat.lt_or_ge j i with q | q
          · rw [ih j q ho] at hcj; cases hcj
          · have e : j = i := by omega
            subst e; exact Or.inr ⟨rfl, Nat.le_refl _⟩
        | some g =>
          intro ih
          obtain ⟨h1, h2, h3, h4⟩ := ih
          show LBS T x t out (i + 1) (if pVal T g x ≤ pVal T i x then some g else some i)
          split
          · rename_i hle
            rw [Int32.le_iff_toInt_le] at hle
            refine ⟨by omega, h2, h3, fun j hj ho hcj => ?_⟩
            rcases Nat.lt_or_ge j i with q | q
            · exact h4 j q ho hcj
            · have e : j = i := by omega
              subst e; omega
          · rename_i hle
            rw [Int32.le_iff_toInt_le] at hle
            refine ⟨Nat.lt_succ_self i, h, hc, fun j hj ho hcj => ?_⟩
            rcases Nat.lt_or_ge j i with q | q
            · have := h4 j q ho hcj; left; omega
            · have e : j = i := by omega
              subst e; exact Or.inr ⟨rfl, Nat.le_refl _⟩
theorem lb_some {i g : Nat} (h : lb T x t out i = some g) : g < i ∧ ¬ nI g = out ∧ cnt T g x t = true ∧ ∀ j, j < i → ¬ nI j = out → cnt T j x t = true → (pVal T g x).toInt < (pVal T j x).toInt ∨ ((pVal T g x).toInt = (pVal T j x).toInt ∧ g ≤ j) := by
  have := lb_spec T x t out i
  rw [h] at this; exact this
theorem lb_none {i : Nat} (h : lb T x t out i = none) : ∀ j, j < i → ¬ nI j = out → cnt T j x t = false := by
  have := lb_spec T x t out i
  rw [h] at this; exact this
/-! ranks -/
theorem rnk_pos {l i : Nat} : ∀ m, i < m → cnt T i x t = true → low T i l x = true → 0 < rnk T l x t m
  | 0, h, _, _ => absurd h (Nat.not_lt_zero i)
  | m + 1, h, h1, h2 => by
    rw [rnk]
    rcases Nat.lt_or_ge i m with q | q
    · have := rnk_pos m q h1 h2; omega
    · have e : i = m := by omega
      subst e
      rw [if_pos ⟨h1, h2⟩]; omega
theorem rnk_zero {l : Nat} : ∀ m, (∀ i, i < m → cnt T i x t = true → low T i l x = false) → rnk T l x t m = 0
  | 0, _ => rfl
  | m + 1, h => by
    rw [rnk, rnk_zero m (fun i hi => h i (by omega)), if_neg]
    rintro ⟨h1, h2⟩
    rw [h m (Nat.lt_succ_self m) h1] at h2; cases h2
theorem low_int {l o : Nat} : low T l o x = true ↔ (pVal T l x).toInt < (pVal T o x).toInt ∨ ((pVal T l x).toInt = (pVal T o x).toInt ∧ l < o) := by
  simp only [low, Bool.or_eq_true, Bool.and_eq_true, decide_eq_true_eq]
  rw [Int32.lt_iff_toInt_lt, Int32.toInt_inj]
theorem rnk_low {g : Nat} (hn : n ≤ 20) (h : lb T x t (-1) n = some g) : rnk T g x t n = 0 ∧ ∀ j, j < n → ¬ j = g → cnt T j x t = true → 0 < rnk T j x t n := by
  obtain ⟨h1, h2, h3, h4⟩ := lb_some h
  refine ⟨rnk_zero n (fun i hi hc => ?_), fun j hj hne hc => rnk_pos n h1 h3 (low_int.mpr ?_)⟩
  · have := h4 i hi (nI_neO (by omega)) hc
    cases hl : low T i g x with
    | false => rfl
    | true => have := low_int.mp hl; omega
  · have := h4 j hj (nI_neO (by omega)) hc
    omega
theorem rkV_0 (hn : n ≤ 20) : rkV T n mo x 0 = plo T n mo x := by
  cases h : lb T x mo (-1) n with
  | none =>
    rw [plo_n h]
    exact (orN_n (Nat.le_refl n) (fun j hj => by simp [rkP, lb_none h j hj (nI_neO (by omega))])).symm
  | some g =>
    obtain ⟨h1, h2, h3, -⟩ := lb_some h
    obtain ⟨h5, h6⟩ := rnk_low hn h
    rw [plo_s h]
    refine (orN_y h1 (by simp [rkP, h3, h5]) (fun j hj => ?_)).symm
    cases hc : cnt T j x mo with
    | false => simp [rkP, hc]
    | true =>
      have := h6 j (by omega) (by omega) hc
      simp only [rkP, hc, Bool.true_and, decide_eq_false_iff_not]; omega
theorem rkV_1 (hn : n ≤ 20) : rkV T n mo x 1 = -1 ∨ ∃ k g : Nat, k < n ∧ rkV T n mo x 1 = nI k ∧ lb T x mo (-1) n = some g ∧ g < n ∧ ¬ k = g ∧ pVal T g x ≤ pVal T k x := by
  rcases Nat.lt_or_ge (fst0 (rkP T n mo x 1) n) n with q | q
  · right
    have hp := fst0_yes _ _ q
    rw [rkV, orN, if_pos q]
    generalize fst0 (rkP T n mo x 1) n = k at hp q ⊢
    simp only [rkP, Bool.and_eq_true, decide_eq_true_eq] at hp
    obtain ⟨hc, hr⟩ := hp
    cases h : lb T x mo (-1) n with
    | none => rw [lb_none h k q (nI_neO (by omega))] at hc; cases hc
    | some g =>
      obtain ⟨h1, h2, h3, h4⟩ := lb_some h
      refine ⟨k, g, q, rfl, rfl, h1, fun e => ?_, ?_⟩
      · subst e; have := (rnk_low hn h).1; omega
      · rw [Int32.le_iff_toInt_le]
        have := h4 k q (nI_neO (by omega)) hc; omega
  · left; rw [rkV, orN, if_neg (by omega)]
/-! rows -/
theorem rowS_y {k : Nat} (hk : k < rc T n mo 64) : rowS T n mo k < 64 ∧ beg T n mo (rowS T n mo k) = true ∧ rc T n mo (rowS T n mo k) = k := by
  obtain ⟨y, h1, h2, rfl⟩ := rc_at 64 hk
  rw [rowS_at h1 h2]; exact ⟨h1, h2, rfl⟩
theorem rowS_nx {k z : Nat} (hk : k < rc T n mo 64) (hz : z < rowS T n mo (k + 1)) (hz64 : z < 64) (hb : beg T n mo z = true) : rc T n mo z ≤ k := by
  rcases Nat.lt_or_ge (k + 1) (rc T n mo 64) with q | q
  · obtain ⟨h1, h2, h3⟩ := rowS_y q
    have := rc_lt (x := rowS T n mo (k + 1)) hb hz
    omega
  · have := rc_lt (x := 64) hb hz64
    omega
theorem rowS_end' {k : Nat} (hk : k < rc T n mo 64) (h : ¬ k + 1 < rc T n mo 64) : rowS T n mo (k + 1) = 64 := by
  rw [show k + 1 = rc T n mo 64 by omega, rowS_end]
theorem rowS_step {k : Nat} (hk : k < rc T n mo 64) : rowS T n mo k < rowS T n mo (k + 1) ∧ rowS T n mo (k + 1) ≤ 64 := by
  obtain ⟨h1, h2, h3⟩ := rowS_y hk
  by_cases q : k + 1 < rc T n mo 64
  · obtain ⟨g1, g2, g3⟩ := rowS_y q
    refine ⟨?_, by omega⟩
    rcases Nat.lt_or_ge (rowS T n mo k) (rowS T n mo (k + 1)) with w | w
    · exact w
    · have := rc_mono T n mo _ _ w; omega
  · rw [rowS_end' hk q]; omega
theorem rowS_c {k : Nat} (hk : k < rc T n mo 64) (d : Nat) : rowS T n mo k + d < rowS T n mo (k + 1) → plo T n mo (rowS T n mo k + d) = plo T n mo (rowS T n mo k) := by
  obtain ⟨s1, s2⟩ := rowS_step hk
  obtain ⟨h1, h2, h3⟩ := rowS_y hk
  generalize hy : rowS T n mo k = y at *
  induction d with
  | zero => exact fun _ => rfl
  | succ d ih =>
    intro h
    have ih := ih (by omega)
    have hb : beg T n mo (y + (d + 1)) = false := by
      cases hb : beg T n mo (y + (d + 1)) with
      | false => rfl
      | true =>
        have g1 := rowS_nx hk h (by omega) hb
        have g2 := rc_lt (x := y + (d + 1)) h2 (by omega)
        omega
    simp only [beg, Bool.or_eq_false_iff, decide_eq_false_iff_not, Bool.not_eq_false', decide_eq_true_eq] at hb
    rw [hb.2, show y + (d + 1) - 1 = y + d by omega, ih]
theorem rowS_const {k x : Nat} (hk : k < rc T n mo 64) (h1 : rowS T n mo k ≤ x) (h2 : x < rowS T n mo (k + 1)) : plo T n mo x = plo T n mo (rowS T n mo k) := by
  have := rowS_c hk (x - rowS T n mo k) (by omega)
  rw [show rowS T n mo k + (x - rowS T n mo k) = x by omega] at this; exact this
theorem beg_00 : beg T n mo 0 = true := by simp [beg]
theorem rowS_0 : rowS T n mo 0 = 0 := rowS_at (x := 0) (by decide) beg_00
theorem rc_pos : 0 < rc T n mo 64 := rc_lt (y := 0) (x := 64) beg_00 (by decide)
theorem plo_ge (hn : n ≤ 20) (x : Nat) : ¬ plo T n mo x = -2 := by
  intro q
  cases h : lb T x mo (-1) n with
  | none => rw [plo_n h] at q; exact absurd q (by decide)
  | some g =>
    have := lb_lt _ _ _ _ _ _ h
    rw [plo_s h] at q
    have q2 : (nI g).toInt = (-2 : Int32).toInt := congrArg Int32.toInt q
    have e : (-2 : Int32).toInt = -2 := by decide
    rw [nI_toInt (by omega)] at q2; omega
theorem row_ne {k : Nat} (hk : k < rc T n mo 64) (h2 : k + 1 < rc T n mo 64) : ¬ plo T n mo (rowS T n mo (k + 1)) = plo T n mo (rowS T n mo k) := by
  obtain ⟨s1, s2⟩ := rowS_step hk
  obtain ⟨h1, hb, h3⟩ := rowS_y h2
  simp only [beg, Bool.or_eq_true, decide_eq_true_eq, Bool.not_eq_true', decide_eq_false_iff_not] at hb
  rcases hb with q | q
  · omega
  · rw [rowS_const hk (by omega) (by omega : rowS T n mo (k + 1) - 1 < rowS T n mo (k + 1))] at q; exact q
end LBX
