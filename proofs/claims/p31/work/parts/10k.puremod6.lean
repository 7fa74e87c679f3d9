/-! the first moments, the lines that are never lowest -/
def isx (T : Nat → Int32) (n l t x : Nat) : Bool := decide (lb T x t (-1) n = some l)
def anx (T : Nat → Int32) (n l t : Nat) : Bool := decide (fst0 (isx T n l t) 64 < 64)
def fmM (T : Nat → Int32) (n l : Nat) : Int32 := orN (fst0 (anx T n l) 100) 100
section FM
variable {T : Nat → Int32} {n l t x : Nat}
theorem lb_cong {t' : Nat} {out : Int32} : ∀ i, (∀ j, j < i → cnt T j x t = cnt T j x t') → lb T x t out i = lb T x t' out i
  | 0, _ => rfl
  | i + 1, h => by rw [lb, lb, lb_cong i (fun j hj => h j (by omega)), h i (by omega)]
theorem lb_cnt {out : Int32} {g : Nat} : ∀ i, lb T x t out i = some g → cnt T g x t = true
  | 0, h => by cases h
  | i + 1, h => by
    rw [lb] at h
    split at h
    · exact lb_cnt i h
    · split at h
      · exact lb_cnt i h
      · rename_i hc
        have hc : cnt T i x t = true := by simpa using hc
        split at h
        · cases h; exact hc
        · rename_i g' hg'
          split at h
          · cases h; exact lb_cnt i hg'
          · cases h; exact hc
theorem lb_nil {out : Int32} : ∀ i, (∀ j, j < i → cnt T j x t = false) → lb T x t out i = none
  | 0, _ => rfl
  | i + 1, h => by rw [lb_b (h i (by omega)), lb_nil i (fun j hj => h j (by omega))]
theorem anx_y (hx : x < 64) (h : lb T x t (-1) n = some l) : anx T n l t = true := by
  simp only [anx, decide_eq_true_eq]
  rcases Nat.lt_or_ge (fst0 (isx T n l t) 64) 64 with q | q
  · exact q
  · have := fst0_no (isx T n l t) 64 x (by omega)
    simp [isx, h] at this
theorem anx_n (h : ∀ x, x < 64 → isx T n l t x = false) : anx T n l t = false := by
  simp only [anx, decide_eq_false_iff_not]
  rw [fst0_end h]; omega
theorem chg_of : ∀ i, chg T t i = false → ∀ j, j < i → lvB T j (nI t) = lvB T j (nI t - nI 1)
  | 0, _, j, hj => absurd hj (Nat.not_lt_zero j)
  | i + 1, h, j, hj => by
    rw [chg, Bool.or_eq_false_iff] at h
    rcases Nat.lt_or_ge j i with q | q
    · exact chg_of i h.1 j q
    · rw [show j = i by omega]
      simpa using h.2
theorem anx_chg (hT : TOK T n) (h : chg T t n = false) : (t = 0 → anx T n l t = false) ∧ (0 < t → anx T n l t = anx T n l (t - 1)) := by
  have h1 := chg_of n h
  refine ⟨fun h0 => ?_, fun h0 => ?_⟩
  · subst h0
    refine anx_n (fun x hx => ?_)
    have : lb T x 0 (-1) n = none := lb_nil n (fun j hj => by
      obtain ⟨-, -, -, a, b, ea, eb, hab, hb⟩ := hT j hj
      have e : nI 0 - nI 1 = (-1 : Int32) := by decide
      have e2 : lvB T j (-1) = false := by
        have : (-1 : Int32) < nI a := by
          rw [Int32.lt_iff_toInt_lt, nI_toInt (by omega)]
          have : (-1 : Int32).toInt = -1 := by decide
          omega
        simp [lvB, inB, ea, this]
      rw [cnt, h1 j hj, e, e2, Bool.and_false])
    simp [isx, this]
  · have e : ∀ x, lb T x t (-1) n = lb T x (t - 1) (-1) n := fun x => lb_cong n (fun j hj => by
      rw [cnt, cnt, h1 j hj, pk_sub h0])
    have e2 : isx T n l t = isx T n l (t - 1) := funext fun x => by rw [isx, isx, e x]
    rw [anx, anx, e2]
theorem nt_val {f : Nat → Int32} {g : Nat} (ht : t < 2 ^ 31) : ∀ x, nt T n t f x g = if f g = -1 ∧ fst0 (isx T n g t) x < x then nI t else f g
  | 0 => by rw [if_neg (fun q => by have := q.2; omega)]; rfl
  | x + 1 => by
    have ih := nt_val (f := f) (g := g) ht x
    have hle := fst0_le (isx T n g t) x
    have hs : fst0 (isx T n g t) (x + 1) < x + 1 ↔ fst0 (isx T n g t) x < x ∨ isx T n g t x = true := by
      rw [fst0]
      by_cases a : fst0 (isx T n g t) x < x
      · rw [if_pos a]; exact ⟨fun _ => Or.inl a, fun _ => by omega⟩
      · rw [if_neg a]
        by_cases b : isx T n g t x = true
        · rw [if_pos b]; exact ⟨fun _ => Or.inr b, fun _ => by omega⟩
        · rw [if_neg b]; exact ⟨fun q => by omega, fun q => q.elim (fun w => absurd w a) (fun w => absurd w b)⟩
    have key : nt T n t f (x + 1) g = if nt T n t f x g = -1 ∧ isx T n g t x = true then nI t else nt T n t f x g := by
      cases hb : lb T x t (-1) n with
      | none => rw [← nt_0 hb, if_neg (fun q => by have := q.2; simp [isx, hb] at this)]
      | some k =>
        by_cases hk : k = g
        · subst hk
          have hi : isx T n k t x = true := by simp [isx, hb]
          by_cases h1 : nt T n t f x k = -1
          · rw [← nt_1 hb h1, upd_s, if_pos ⟨h1, hi⟩]
          · rw [← nt_2 hb h1, if_neg (fun q => h1 q.1)]
        · have hi : ¬ isx T n g t x = true := by simp [isx, hb, hk]
          rw [if_neg (fun q => hi q.2)]
          by_cases h1 : nt T n t f x k = -1
          · rw [← nt_1 hb h1, upd_n (fun q => hk q.symm)]
          · rw [← nt_2 hb h1]
    rw [key, ih]
    have hne := nI_ne1 ht
    by_cases a : f g = -1 <;> by_cases b : fst0 (isx T n g t) x < x <;> by_cases c : isx T n g t x = true <;> simp [a, b, c, hne, hs]
theorem rn_val (hT : TOK T n) (g : Nat) : ∀ t, t ≤ 100 → rn T n (fun _ => -1) t g = orN (fst0 (anx T n g) t) t
  | 0, _ => rfl
  | t + 1, ht => by
    have ih := rn_val hT g t (by omega)
    have hle := fst0_le (anx T n g) t
    have hs : anx T n g t = true → fst0 (anx T n g) t = t → orN (fst0 (anx T n g) (t + 1)) (t + 1) = nI t := fun a b => by
      rw [fst0, if_neg (by omega), if_pos a, orN, if_pos (by omega)]
    have hk : fst0 (anx T n g) t < t → orN (fst0 (anx T n g) (t + 1)) (t + 1) = orN (fst0 (anx T n g) t) t := fun a => by
      rw [fst0, if_pos a, orN, orN, if_pos (by omega), if_pos a]
    have hz : anx T n g t = false → ¬ fst0 (anx T n g) t < t → orN (fst0 (anx T n g) (t + 1)) (t + 1) = orN (fst0 (anx T n g) t) t := fun a b => by
      rw [fst0, if_neg b, if_neg (ntb a), orN, orN, if_neg (by omega), if_neg b]
    have hv : fst0 (anx T n g) t < t → ¬ orN (fst0 (anx T n g) t) t = -1 := fun a => by rw [orN, if_pos a]; exact nI_ne1 (by omega)
    have hv2 : ¬ fst0 (anx T n g) t < t → orN (fst0 (anx T n g) t) t = -1 := fun a => by rw [orN, if_neg a]
    by_cases hc : chg T t n = true
    · rw [← rn_1 hc, nt_val (by omega), ih]
      by_cases a : fst0 (anx T n g) t < t
      · rw [if_neg (fun q => hv a q.1), hk a]
      · by_cases b : anx T n g t = true
        · rw [if_pos ⟨hv2 a, by simpa [anx] using b⟩, hs b (by omega)]
        · rw [if_neg (fun q => b (by simpa [anx] using q.2)), hz (by simpa using b) a]
    · have hc : chg T t n = false := by simpa using hc
      rw [← rn_0 hc, ih]
      obtain ⟨c1, c2⟩ := anx_chg (l := g) hT hc
      by_cases a : fst0 (anx T n g) t < t
      · rw [hk a]
      · have : anx T n g t = false := by
          rcases Nat.eq_zero_or_pos t with q | q
          · exact c1 q
          · rw [c2 q]; exact fst0_no _ t (t - 1) (by omega)
        rw [hz this a]
theorem fmo_eq (hT : TOK T n) (g : Nat) : fmo T n g = fmM T n g := rn_val hT g 100 (Nat.le_refl _)
end FM
