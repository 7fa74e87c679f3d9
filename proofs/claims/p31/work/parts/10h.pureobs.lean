theorem tsw6 {j : Nat} (h : j < 6) : (nI j).toInt < 6 ∨ (8 : Int) < (nI j).toInt := by rw [nI_toInt (by omega)]; omega
theorem lf_s {p : Nat → Bool} {i : Nat} (h : ∀ j, j < i → p j = false) (h2 : p i = false) : ∀ j, j < i + 1 → p j = false := fun j hj => (Nat.lt_or_ge j i).elim (fun q => h j q) (fun q => by rw [show j = i by omega]; exact h2)
theorem rnk_le (T : Nat → Int32) (l x t : Nat) : ∀ i, rnk T l x t i ≤ i + 1
  | 0 => by simp [rnk]
  | i + 1 => by have := rnk_le T l x t i; unfold rnk; split <;> omega
theorem ncl0 : (nI 0).toNatClampNeg = 0 := by decide
theorem ncl1 : (nI 1).toNatClampNeg = 1 := by decide
theorem ncl2 : (nI 2).toNatClampNeg = 2 := by decide
theorem ncl3 : (nI 3).toNatClampNeg = 3 := by decide
theorem ncl4 : (nI 4).toNatClampNeg = 4 := by decide
theorem ncl5 : (nI 5).toNatClampNeg = 5 := by decide
theorem ncl6 : (nI 6).toNatClampNeg = 6 := by decide
theorem ncl7 : (nI 7).toNatClampNeg = 7 := by decide
theorem ncl8 : (nI 8).toNatClampNeg = 8 := by decide
def xVal (T : Nat → Int32) (n mo : Nat) (x : Int32) : Nat := if plB x = false then 1 else if lb T x.toNatClampNeg mo (-1) n = none then 2 else 0
theorem gVal_s {T : Nat → Int32} {n mo x g : Nat} (h : lb T x mo (-1) n = some g) : pVal T g x = oV T x (lb T x mo (-1) n) := by rw [h]; rfl
/-! prune: the lines of the bits, from the last on -/
def bitB (nv : Int32) (j : Nat) : Bool := !decide ((nv >>> (nI j &&& 31)) &&& nI 1 = nI 0)
def prS (nv : Int32) (T : Nat → Int32) (n : Nat) : Nat → (Nat → Int32) × Nat × Nat
  | 0 => (T, n, 0)
  | m + 1 => if bitB nv (n - 1 - m) = true then (pDrop (prS nv T n m).1 (prS nv T n m).2.1 (n - 1 - m), (prS nv T n m).2.1 - 1, (prS nv T n m).2.2 + 1) else prS nv T n m
theorem prS_n (nv : Int32) (T : Nat → Int32) (n : Nat) : ∀ m, m ≤ n → n - m ≤ (prS nv T n m).2.1 ∧ (prS nv T n m).2.1 ≤ n ∧ (prS nv T n m).2.1 + (prS nv T n m).2.2 = n
  | 0, _ => ⟨Nat.le_refl _, Nat.le_refl _, rfl⟩
  | m + 1, h => by
    have ih := prS_n nv T n m (by omega)
    unfold prS
    split
    · show n - (m + 1) ≤ (prS nv T n m).2.1 - 1 ∧ (prS nv T n m).2.1 - 1 ≤ n ∧ (prS nv T n m).2.1 - 1 + ((prS nv T n m).2.2 + 1) = n
      omega
    · omega
theorem prS_y {nv : Int32} {T : Nat → Int32} {n j : Nat} (hj : j < n) (h : ¬ (nv >>> (nI j &&& 31)) &&& nI 1 = nI 0) : (pDrop (prS nv T n (n - (j + 1))).1 (prS nv T n (n - (j + 1))).2.1 j, (prS nv T n (n - (j + 1))).2.1 - 1, (prS nv T n (n - (j + 1))).2.2 + 1) = prS nv T n (n - j) := by
  have e : n - 1 - (n - (j + 1)) = j := by omega
  rw [show n - j = n - (j + 1) + 1 by omega, prS, e, if_pos (by simp [bitB, h])]
theorem prS_x {nv : Int32} {T : Nat → Int32} {n j : Nat} (hj : j < n) (h : (nv >>> (nI j &&& 31)) &&& nI 1 = nI 0) : prS nv T n (n - (j + 1)) = prS nv T n (n - j) := by
  have e : n - 1 - (n - (j + 1)) = j := by omega
  rw [show n - j = n - (j + 1) + 1 by omega, prS, e, if_neg (by simp [bitB, h])]
theorem prL_y {nv : Int32} {T : Nat → Int32} {n j mo ver : Nat} (hj : j < n) (h : ¬ (nv >>> (nI j &&& 31)) &&& nI 1 = nI 0) : (pDrop (prS nv T n (n - (j + 1))).1 (prS nv T n (n - (j + 1))).2.1 j, (prS nv T n (n - (j + 1))).2.1 - 1, mo, ver + (prS nv T n (n - (j + 1))).2.2 + 1) = ((prS nv T n (n - j)).1, (prS nv T n (n - j)).2.1, mo, ver + (prS nv T n (n - j)).2.2) := by
  rw [← prS_y hj h]; rfl
theorem prL_x {nv : Int32} {T : Nat → Int32} {n j mo ver : Nat} (hj : j < n) (h : (nv >>> (nI j &&& 31)) &&& nI 1 = nI 0) : ((prS nv T n (n - (j + 1))).1, (prS nv T n (n - (j + 1))).2.1, mo, ver + (prS nv T n (n - (j + 1))).2.2) = ((prS nv T n (n - j)).1, (prS nv T n (n - j)).2.1, mo, ver + (prS nv T n (n - j)).2.2) := by
  rw [← prS_x hj h]
theorem pm_lt {k : Nat} {iv : Int32} (hk : k ≤ 20) (h : iv = nI k - nI 1) (h2 : iv < nI 0) : k = 0 := by
  rcases Nat.eq_zero_or_pos k with q | q
  · exact q
  · obtain ⟨j, rfl⟩ : ∃ j, k = j + 1 := ⟨k - 1, by omega⟩
    rw [h, pk_sub (by omega), Nat.add_sub_cancel] at h2
    exact absurd h2 (nI_pos (by omega))
theorem pm_ge {k : Nat} {iv : Int32} (h : iv = nI k - nI 1) (h2 : ¬ iv < nI 0) : ∃ j, k = j + 1 ∧ iv = nI j := by
  rcases Nat.eq_zero_or_pos k with q | q
  · subst q; exact absurd (h ▸ (by decide : nI 0 - nI 1 < nI 0)) h2
  · exact ⟨k - 1, by omega, by rw [h, pk_sub (by omega)]⟩
theorem pm_st {j : Nat} : nI j + (-1) = nI j - nI 1 := by rw [Int32.sub_eq_add_neg, show -nI 1 = (-1 : Int32) by decide]
