/-! what is said of the lines: plain functions of the table -/
def inB (v lo hi : Int32) : Bool := !decide (v < lo) && !decide (hi < v)
def spB (T : Nat → Int32) (l x : Nat) : Bool := inB (nI x) (T (l * 6 + 2)) (T (l * 6 + 3))
def lvB (T : Nat → Int32) (l : Nat) (t : Int32) : Bool := inB t (T (l * 6 + 4)) (T (l * 6 + 5))
def cnt (T : Nat → Int32) (l x t : Nat) : Bool := spB T l x && lvB T l (nI t)
def low (T : Nat → Int32) (l o x : Nat) : Bool := decide (pVal T l x < pVal T o x) || (decide (pVal T l x = pVal T o x) && decide (l < o))
def lb (T : Nat → Int32) (x t : Nat) (out : Int32) : Nat → Option Nat
  | 0 => none
  | i + 1 => if nI i = out then lb T x t out i else if cnt T i x t = false then lb T x t out i else match lb T x t out i with
    | none => some i
    | some g => if pVal T g x ≤ pVal T i x then some g else some i
def oI : Option Nat → Int32
  | none => -1
  | some g => nI g
def oV (T : Nat → Int32) (x : Nat) : Option Nat → Int32
  | none => nI 0
  | some g => pVal T g x
def chg (T : Nat → Int32) (t : Nat) : Nat → Bool
  | 0 => false
  | i + 1 => chg T t i || (lvB T i (nI t) != lvB T i (nI t - nI 1))
def lvc (T : Nat → Int32) (t : Nat) : Nat → Nat
  | 0 => 0
  | i + 1 => lvc T t i + if lvB T i (nI t) = true then 1 else 0
def rnk (T : Nat → Int32) (l x t : Nat) : Nat → Nat
  | 0 => 0
  | i + 1 => rnk T l x t i + if cnt T i x t = true ∧ low T i l x = true then 1 else 0
/-- the ranges of a line's numbers -/
def ROK (T : Nat → Int32) (l : Nat) : Prop := (-99 ≤ (T (l * 6 + 0)).toInt ∧ (T (l * 6 + 0)).toInt ≤ 99) ∧ (-9999 ≤ (T (l * 6 + 1)).toInt ∧ (T (l * 6 + 1)).toInt ≤ 9999) ∧ (∃ a b : Nat, T (l * 6 + 2) = nI a ∧ T (l * 6 + 3) = nI b ∧ a ≤ b ∧ b < 64) ∧ ∃ a b : Nat, T (l * 6 + 4) = nI a ∧ T (l * 6 + 5) = nI b ∧ a ≤ b ∧ b < 100
def TOK (T : Nat → Int32) (n : Nat) : Prop := ∀ l, l < n → ROK T l
theorem i32_mul {a b : Int32} (h1 : -2147483648 ≤ a.toInt * b.toInt) (h2 : a.toInt * b.toInt < 2147483648) : (a * b).toInt = a.toInt * b.toInt := by
  rw [Int32.toInt_mul]; exact Int.bmod_eq_of_le (by omega) (by omega)
theorem i32_add {a b : Int32} (h1 : -2147483648 ≤ a.toInt + b.toInt) (h2 : a.toInt + b.toInt < 2147483648) : (a + b).toInt = a.toInt + b.toInt := by
  rw [Int32.toInt_add]; exact Int.bmod_eq_of_le (by omega) (by omega)
theorem i32_sub {a b : Int32} (h1 : -2147483648 ≤ a.toInt - b.toInt) (h2 : a.toInt - b.toInt < 2147483648) : (a - b).toInt = a.toInt - b.toInt := by
  rw [Int32.toInt_sub]; exact Int.bmod_eq_of_le (by omega) (by omega)
theorem prod_rng {a b x M N : Int} (h1 : -M ≤ a) (h2 : a ≤ M) (hx : 0 ≤ x) (hN : x ≤ N) (hM : 0 ≤ M) : -(M * N) ≤ a * x ∧ a * x ≤ M * N := by
  have h3 : a * x ≤ M * x := Int.mul_le_mul_of_nonneg_right h2 hx
  have h4 : -M * x ≤ a * x := Int.mul_le_mul_of_nonneg_right h1 hx
  have h5 : M * x ≤ M * N := Int.mul_le_mul_of_nonneg_left hN hM
  rw [Int.neg_mul] at h4
  omega
theorem pVal_eq {T : Nat → Int32} {l x : Nat} (h : ROK T l) (hx : x < 64) : (pVal T l x).toInt = (T (l * 6 + 0)).toInt * x + (T (l * 6 + 1)).toInt ∧ -16236 ≤ (pVal T l x).toInt ∧ (pVal T l x).toInt ≤ 16236 := by
  obtain ⟨⟨a1, a2⟩, ⟨b1, b2⟩, -⟩ := h
  have hn : (nI x).toInt = (x : Int) := nI_toInt (by omega)
  obtain ⟨p1, p2⟩ := prod_rng (a := (T (l * 6 + 0)).toInt) (b := 0) (x := (x : Int)) (M := 99) (N := 63) a1 a2 (by omega) (by omega) (by omega)
  have e1 : (T (l * 6 + 0) * nI x).toInt = (T (l * 6 + 0)).toInt * x := by
    rw [← hn] at p1 p2 ⊢
    exact i32_mul (by omega) (by omega)
  have e2 : (pVal T l x).toInt = (T (l * 6 + 0)).toInt * x + (T (l * 6 + 1)).toInt := by
    unfold pVal
    rw [i32_add (by rw [e1]; omega) (by rw [e1]; omega), e1]
  exact ⟨e2, by omega, by omega⟩
theorem low_diff {T : Nat → Int32} {l o x : Nat} (hl : ROK T l) (ho : ROK T o) (hx : x < 64) : (pVal T l x - pVal T o x < 0 ↔ pVal T l x < pVal T o x) ∧ (pVal T l x - pVal T o x = 0 ↔ pVal T l x = pVal T o x) := by
  obtain ⟨-, a1, a2⟩ := pVal_eq hl hx
  obtain ⟨-, b1, b2⟩ := pVal_eq ho hx
  have e : (pVal T l x - pVal T o x).toInt = (pVal T l x).toInt - (pVal T o x).toInt := i32_sub (by omega) (by omega)
  constructor
  · rw [Int32.lt_iff_toInt_lt, Int32.lt_iff_toInt_lt, e, Int32.toInt_zero]; omega
  · rw [← Int32.toInt_inj, ← Int32.toInt_inj, e, Int32.toInt_zero]; omega
theorem low_1 {T : Nat → Int32} {l o x : Nat} (hl : ROK T l) (ho : ROK T o) (hx : x < 64) (h : pVal T l x - pVal T o x < 0) : nI 1 = bI (low T l o x) := by
  simp [low, bI, (low_diff hl ho hx).1.mp h]; rfl
theorem low_2 {T : Nat → Int32} {l o x : Nat} (hl : ROK T l) (ho : ROK T o) (hx : x < 64) (h : ¬ pVal T l x - pVal T o x < 0) (h2 : ¬ pVal T l x - pVal T o x = 0) : nI 0 = bI (low T l o x) := by
  simp [low, bI, mt (low_diff hl ho hx).1.mpr h, mt (low_diff hl ho hx).2.mpr h2]; rfl
theorem low_3 {T : Nat → Int32} {l o x : Nat} (hl : ROK T l) (ho : ROK T o) (hx : x < 64) (h : ¬ pVal T l x - pVal T o x < 0) (h2 : pVal T l x - pVal T o x = 0) (h3 : l < o) : nI 1 = bI (low T l o x) := by
  simp [low, bI, (low_diff hl ho hx).2.mp h2, h3]; rfl
theorem low_4 {T : Nat → Int32} {l o x : Nat} (hl : ROK T l) (ho : ROK T o) (hx : x < 64) (h : ¬ pVal T l x - pVal T o x < 0) (h2 : pVal T l x - pVal T o x = 0) (h3 : o ≤ l) : nI 0 = bI (low T l o x) := by
  simp [low, bI, (low_diff hl ho hx).2.mp h2, Nat.not_lt.mpr h3, mt (low_diff hl ho hx).1.mpr h]; rfl
theorem lb_lt (T : Nat → Int32) (x t : Nat) (out : Int32) : ∀ (i g : Nat), lb T x t out i = some g → g < i
  | 0, g, h => by cases h
  | i + 1, g, h => by
    have ih := lb_lt T x t out i
    unfold lb at h
    split at h
    · exact Nat.lt_succ_of_lt (ih g h)
    · split at h
      · exact Nat.lt_succ_of_lt (ih g h)
      · split at h
        · cases h; exact Nat.lt_succ_self _
        · rename_i g' hg'
          split at h
          · cases h; exact Nat.lt_succ_of_lt (ih _ hg')
          · cases h; exact Nat.lt_succ_self _
section LBS
variable {T : Nat → Int32} {x t : Nat} {out : Int32} {i : Nat}
theorem lb_a (h : nI i = out) : lb T x t out (i + 1) = lb T x t out i := by rw [lb, if_pos h]
theorem lb_b (hc : cnt T i x t = false) : lb T x t out (i + 1) = lb T x t out i := by rw [lb, if_pos hc]; split <;> rfl
theorem lb_c (h : ¬ nI i = out) (hc : cnt T i x t = true) (hi : i < 2 ^ 31) (h1 : oI (lb T x t out i) = -1) : lb T x t out (i + 1) = some i := by
  rw [lb, if_neg h, if_neg (by simp [hc])]
  cases hb : lb T x t out i with
  | none => rfl
  | some g =>
    rw [hb] at h1
    have h2 := lb_lt T x t out i g hb
    exact absurd h1 (by
      intro q
      have q2 : (nI g).toInt = (-1 : Int32).toInt := congrArg Int32.toInt q
      rw [nI_toInt (by omega)] at q2
      have : (-1 : Int32).toInt = -1 := by decide
      omega)
theorem lb_d (hc : ¬ oI (lb T x t out i) = -1) (h2 : oV T x (lb T x t out i) ≤ pVal T i x) : lb T x t out (i + 1) = lb T x t out i := by
  rw [lb]
  split
  · rfl
  · split
    · rfl
    · cases hb : lb T x t out i with
      | none => rw [hb] at hc; exact absurd rfl hc
      | some g =>
        rw [hb] at h2
        show (if pVal T g x ≤ pVal T i x then some g else some i) = some g
        exact if_pos h2
theorem lb_e (h : ¬ nI i = out) (hc : cnt T i x t = true) (h1 : ¬ oI (lb T x t out i) = -1) (h2 : ¬ oV T x (lb T x t out i) ≤ pVal T i x) : lb T x t out (i + 1) = some i := by
  rw [lb, if_neg h, if_neg (by simp [hc])]
  cases hb : lb T x t out i with
  | none => rfl
  | some g =>
    rw [hb] at h2
    show (if pVal T g x ≤ pVal T i x then some g else some i) = some i
    exact if_neg h2
end LBS
theorem nI_one : nI 1 = 1 := rfl
theorem chg_s {T : Nat → Int32} {t i : Nat} (h : chg T t i = false) (h2 : bI (lvB T i (nI t)) = bI (lvB T i (nI t - nI 1))) : chg T t (i + 1) = false := by
  have : lvB T i (nI t) = lvB T i (nI t - nI 1) := by
    cases h3 : lvB T i (nI t) <;> cases h4 : lvB T i (nI t - nI 1) <;> rw [h3, h4] at h2 <;> first | rfl | exact absurd h2 (by decide)
  rw [chg, h, this]; simp
theorem chg_y {T : Nat → Int32} {t i n : Nat} (h : ¬ bI (lvB T i (nI t)) = bI (lvB T i (nI t - nI 1))) (hi : i < n) : nI 1 = bI (chg T t n) := by
  have h1 : chg T t (i + 1) = true := by
    have : (lvB T i (nI t) != lvB T i (nI t - nI 1)) = true := by
      simp only [bne_iff_ne, ne_eq]
      exact fun e => h (by rw [e])
    rw [chg, this]; simp
  have h2 : ∀ k, i + 1 ≤ k → chg T t k = true := by
    intro k hk
    induction k with
    | zero => omega
    | succ k ih =>
      rcases Nat.lt_or_ge k (i + 1) with q | q
      · rw [show k + 1 = i + 1 by omega]; exact h1
      · rw [chg, ih q]; simp
  rw [h2 n hi]; rfl
