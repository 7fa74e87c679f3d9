/-! the model's questions -/
theorem oI_g {T : Nat → Int32} {x t i : Nat} {lo a : Int32} (ha : a = oI (lb T x t lo i)) (h : ¬ a = -1) : ∃ g, lb T x t lo i = some g ∧ a = nI g := by
  cases hb : lb T x t lo i with
  | none => rw [hb] at ha; exact absurd ha h
  | some g => rw [hb] at ha; exact ⟨g, rfl, ha⟩
section LBM
variable {T : Nat → Int32} {x t i g : Nat} {lo a : Int32}
theorem lbM_a (h : nI i = lo) (ha : a = oI (lb T x t lo i)) : a = oI (lb T x t lo (i + 1)) := by rw [lb_a h]; exact ha
theorem lbM_b (hc : cnt T i x t = false) (ha : a = oI (lb T x t lo i)) : a = oI (lb T x t lo (i + 1)) := by rw [lb_b hc]; exact ha
theorem lbM_c (h : ¬ nI i = lo) (hc : cnt T i x t = true) (hi : i < 2 ^ 31) (h1 : a = -1) (ha : a = oI (lb T x t lo i)) : nI i = oI (lb T x t lo (i + 1)) := by rw [lb_c h hc hi (ha.symm.trans h1)]; rfl
theorem lbM_d (hi : g < 2 ^ 31) (hg : lb T x t lo i = some g) (h2 : pVal T g x ≤ pVal T i x) : nI g = oI (lb T x t lo (i + 1)) := by
  rw [lb_d (by rw [hg]; exact nI_ne1 hi) (by rw [hg]; exact h2), hg]; rfl
theorem lbM_e (hi : g < 2 ^ 31) (h : ¬ nI i = lo) (hc : cnt T i x t = true) (hg : lb T x t lo i = some g) (h2 : ¬ pVal T g x ≤ pVal T i x) : nI i = oI (lb T x t lo (i + 1)) := by
  rw [lb_e h hc (by rw [hg]; exact nI_ne1 hi) (by rw [hg]; exact h2)]; rfl
end LBM
theorem nn_gt {a b : Nat} (ha : a < 2 ^ 31) (hb : b < 2 ^ 31) (h : b < a) : nI b < nI a := (nI_ltI hb ha).mpr h
theorem nn_lt {a b : Nat} (ha : a < 2 ^ 31) (hb : b < 2 ^ 31) (h : a ≤ b) : ¬ nI b < nI a := fun q => by have := (nI_ltI hb ha).mp q; omega
theorem add0 (x : Int32) : x + nI 0 = x := Int32.add_zero x
theorem low_self (T : Nat → Int32) (l x : Nat) : low T l l x = false := by simp [low, Int32.lt_irrefl]
theorem plc_n {T : Nat → Int32} {n mo x : Nat} (h : lb T x mo (-1) n = none) : plc T n mo (-1) (x + 1) = plc T n mo (-1) x + 1 := by rw [plc, plo_n h, if_pos rfl]
theorem plc_s {T : Nat → Int32} {n mo x g : Nat} (hg : g < 2 ^ 31) (h : lb T x mo (-1) n = some g) : plc T n mo (-1) (x + 1) = plc T n mo (-1) x := by rw [plc, plo_s h, if_neg (nI_ne1 hg)]; rfl
def hiM (T : Nat → Int32) (n mo : Nat) (sl : Int32) : Nat → Int32
  | 0 => -10000
  | x + 1 => match lb T x mo (-1) n with
    | none => if nI 9999 ≤ hiM T n mo sl x then hiM T n mo sl x else nI 9999
    | some g => if pVal T g x - sl * nI x - nI 1 ≤ hiM T n mo sl x then hiM T n mo sl x else pVal T g x - sl * nI x - nI 1
section HIM
variable {T : Nat → Int32} {n mo x : Nat} {sl k : Int32}
theorem hiM_n (h : lb T x mo (-1) n = none) : hiM T n mo sl (x + 1) = if nI 9999 ≤ hiM T n mo sl x then hiM T n mo sl x else nI 9999 := by rw [hiM, h]
theorem hiM_s {g : Nat} (h : lb T x mo (-1) n = some g) : hiM T n mo sl (x + 1) = if pVal T g x - sl * nI x - nI 1 ≤ hiM T n mo sl x then hiM T n mo sl x else pVal T g x - sl * nI x - nI 1 := by rw [hiM, h]
theorem hiM_ge (hx : bare T n mo x = true) : ∀ y, x < y → nI 9999 ≤ hiM T n mo sl y
  | 0, h => absurd h (Nat.not_lt_zero _)
  | y + 1, h => by
    rcases Nat.lt_or_ge x y with q | q
    · have ih := hiM_ge hx y q
      cases hb : lb T y mo (-1) n with
      | none => rw [hiM_n hb, if_pos ih]; exact ih
      | some g =>
        rw [hiM_s hb]
        split
        · exact ih
        · rename_i h2
          rw [Int32.le_iff_toInt_le] at ih h2 ⊢; omega
    · have e : x = y := by omega
      subst e
      have hb : lb T x mo (-1) n = none := by simpa [bare] using hx
      rw [hiM_n hb]
      split
      · assumption
      · exact Int32.le_refl _
theorem hiM_eq : ∀ y, (∀ j, j < y → bare T n mo j = false) → hiM T n mo sl y = hiB T n mo sl y
  | 0, _ => rfl
  | y + 1, h => by
    have ih := hiM_eq y (fun j hj => h j (by omega))
    have hy := h y (by omega)
    cases hb : lb T y mo (-1) n with
    | none => simp [bare, hb] at hy
    | some g =>
      have e : pVal T g y - sl * nI y - nI 1 = pVal T g y - nI 1 - sl * nI y := by
        rw [Int32.sub_eq_add_neg, Int32.sub_eq_add_neg, Int32.sub_eq_add_neg, Int32.sub_eq_add_neg, Int32.add_assoc, Int32.add_assoc, Int32.add_comm (-_)]
      rw [hiM_s hb, hiB_s hb, ih, e]
      by_cases q : hiB T n mo sl y < pVal T g y - nI 1 - sl * nI y
      · rw [if_pos q, if_neg (Int32.not_le.mpr q)]
      · rw [if_neg q, if_pos (Int32.not_lt.mp q)]
theorem hiM_end (hk : k = hiM T n mo sl 64) : (k ≤ nI 9999 → k = hiC T n mo sl) ∧ (¬ k ≤ nI 9999 → nI 9999 = hiC T n mo sl) := by
  subst hk
  unfold hiC
  by_cases q : fst0 (bare T n mo) 64 < 64
  · rw [if_pos q]
    have := hiM_ge (sl := sl) (fst0_yes _ _ q) 64 q
    exact ⟨fun h => Int32.le_antisymm h this, fun _ => rfl⟩
  · rw [if_neg q]
    have e := hiM_eq (T := T) (n := n) (mo := mo) (sl := sl) 64 (fun j hj => fst0_no _ 64 j (by omega))
    rw [e]
    exact ⟨fun h => (if_neg (Int32.not_lt.mpr h)).symm, fun h => (if_pos (Int32.not_le.mp h)).symm⟩
end HIM
