/-! the first moments, the lines that are never lowest -/
def isx (T : Nat → Int32) (n l t x : Nat) : Bool := decide (lb T x t (-1) n = some l)
def anx (T : Nat → Int32) (n l t : Nat) : Bool := decide (fst0 (isx T n l t) 64 < 64)
def fmM (T : Nat → Int32) (n l : Nat) : Int32 := orN (fst0 (anx T n l) 100) 100
section FM
variable {T : Nat → Int32} {n l t x : Nat}
theorem lb_cong {t' : Nat} {out : Int32} : ∀ i, (∀ j, j < i → cnt T j x t = cnt T j x t') → lb T x t out i = lb T x t' out i
  | 0, _ => rfl
  | i + 1, h => by rw [lb, lb, lb_cong i (fun j hj => h j (by omega)), h i (by omega)]
theorem lb_cnt {out : Int32} {g : Nat} : ∀ i, lb T x t out i = some g → cnt T g x t = true
  | 0, h => by cases h
  | i + 1, h => by
    rw [lb] at h
    split at h
    · exact lb_cnt i h
    · split at h
      · exact lb_cnt i h
      · rename_i hc
        have hc : cnt T i x t = true := by simpa using hc
        split at h
        · cases h; exact hc
        · rename_i g' hg'
          split at h
          · cases h; exact lb_cnt i hg'
          · cases h; exact hc
theorem lb_nil {out : Int32} : ∀ i, (∀ j, j < i → cnt T j x t = false) → lb T x t out i = none
  | 0, _ => rfl
  | i + 1, h => by rw [lb_b (h i (by omega)), lb_nil i (fun j hj => h j (by omega))]
theorem anx_y (hx : x < 64) (h : lb T x t (-1) n = some l) : anx T n l t = true := by
  simp only [anx, decide_eq_true_eq]
  rcases Nat.lt_or_ge (fst0 (isx T n l t) 64) 64 with q | q
  · exact q
  · have := fst0_no (isx T n l t) 64 x (by omega)
    simp [isx, h] at this
theorem anx_n (h : ∀ x, x < 64 → isx T n l t x = false) : anx T n l t = false := by
  simp only [anx, decide_eq_false_iff_not]
  rw [fst0_end h]; omega
theorem anx_of (h : anx T n l t = true) : ∃ x, x < 64 ∧ lb T x t (-1) n = some l := by
  simp only [anx, decide_eq_true_eq] at h
  exact ⟨_, h, by simpa [isx] using fst0_yes _ _ h⟩
theorem chg_of : ∀ i, chg T t i = false → ∀ j, j < i → lvB T j (nI t) = lvB T j (nI t - nI 1)
  | 0, _, j, hj => absurd hj (Nat.not_lt_zero j)
  | i + 1, h, j, hj => by
    rw [chg, Bool.or_eq_false_iff] at h
    rcases Nat.lt_or_ge j i with q | q
    · exact chg_of i h.1 j q
    · rw [show j = i by omega]
      simpa using h.2
theorem anx_chg (hT : TOK T n) (h : chg T t n = false) : (t = 0 → anx T n l t = false) ∧ (0 < t → anx T n l t = anx T n l (t - 1)) := by
  have h1 := chg_of n h
  refine ⟨fun h0 => ?_, fun h0 => ?_⟩
  · subst h0
    refine anx_n (fun x hx => ?_)
    have : lb T x 0 (-1) n = none := lb_nil n (fun j hj => by
      obtain ⟨-, -, -, a, b, ea, eb, hab, hb⟩ := hT j hj
      have e : nI 0 - nI 1 = (-1 : Int32) := by decide
      have e2 : lvB T j (-1) = false := by
        have : (-1 : Int32) < nI a := by
          rw [Int32.lt_iff_toInt_lt, nI_toInt (by omega)]
          have : (-1 : Int32).toInt = -1 := by decide
          omega
        simp [lvB, inB, ea, this]
      rw [cnt, h1 j hj, e, e2, Bool.and_false])
    simp [isx, this]
  · have e : ∀ x, lb T x t (-1) n = lb T x (t - 1) (-1) n := fun x => lb_cong n (fun j hj => by
      rw [cnt, cnt, h1 j hj, pk_sub h0])
    have e2 : isx T n l t = isx T n l (t - 1) := funext fun x => by rw [isx, isx, e x]
    rw [anx, anx, e2]
theorem nt_val {f : Nat → Int32} {g : Nat} (ht : t < 2 ^ 31) : ∀ x, nt T n t f x g = if f g = -1 ∧ fst0 (isx T n g t) x < x then nI t else f g
  | 0 => by rw [if_neg (fun q => by have := q.2; omega)]; rfl
  | x + 1 => by
    have ih := nt_val (f := f) (g := g) ht x
    have hle := fst0_le (isx T n g t) x
    have hs : fst0 (isx T n g t) (x + 1) < x + 1 ↔ fst0 (isx T n g t) x < x ∨ isx T n g t x = true := by
      rw [fst0]
      by_cases a : fst0 (isx T n g t) x < x
      · rw [if_pos a]; exact ⟨fun _ => Or.inl a, fun _ => by omega⟩
      · rw [if_neg a]
        by_cases b : isx T n g t x = true
        · rw [if_pos b]; exact ⟨fun _ => Or.inr b, fun _ => by omega⟩
        · rw [if_neg b]; exact ⟨fun q => by omega, fun q => q.elim (fun w => absurd w a) (fun w => absurd w b)⟩
    have key : nt T n t f (x + 1) g = if nt T n t f x g = -1 ∧ isx T n g t x = true then nI t else nt T n t f x g := by
      cases hb : lb T x t (-1) n with
      | none => rw [← nt_0 hb, if_neg (fun q => by have := q.2; simp [isx, hb] at this)]
      | some k =>
        by_cases hk : k = g
        · subst hk
          have hi : isx T n k t x = true := by simp [isx, hb]
          by_cases h1 : nt T n t f x k = -1
          · rw [← nt_1 hb h1, upd_s, if_pos ⟨h1, hi⟩]
          · rw [← nt_2 hb h1, if_neg (fun q => h1 q.1)]
        · have hi : ¬ isx T n g t x = true := by simp [isx, hb, hk]
          rw [if_neg (fun q => hi q.2)]
          by_cases h1 : nt T n t f x k = -1
          · rw [← nt_1 hb h1, upd_n (fun q => hk q.symm)]
          · rw [← nt_2 hb h1]
    rw [key, ih]
    have hne := nI_ne1 ht
    by_cases a : f g = -1 <;> by_cases b : fst0 (isx T n g t) x < x <;> by_cases c : isx T n g t x = true <;> simp [a, b, c, hne, hs]
theorem rn_val (hT : TOK T n) (g : Nat) : ∀ t, t ≤ 100 → rn T n (fun _ => -1) t g = orN (fst0 (anx T n g) t) t
  | 0, _ => rfl
  | t + 1, ht => by
    have ih := rn_val hT g t (by omega)
    have hle := fst0_le (anx T n g) t
    have hs : anx T n g t = true → fst0 (anx T n g) t = t → orN (fst0 (anx T n g) (t + 1)) (t + 1) = nI t := fun a b => by
      rw [fst0, if_neg (by omega), if_pos a, orN, if_pos (by omega)]
    have hk : fst0 (anx T n g) t < t → orN (fst0 (anx T n g) (t + 1)) (t + 1) = orN (fst0 (anx T n g) t) t := fun a => by
      rw [fst0, if_pos a, orN, orN, if_pos (by omega), if_pos a]
    have hz : anx T n g t = false → ¬ fst0 (anx T n g) t < t → orN (fst0 (anx T n g) (t + 1)) (t + 1) = orN (fst0 (anx T n g) t) t := fun a b => by
      rw [fst0, if_neg b, if_neg (ntb a), orN, orN, if_neg (by omega), if_neg b]
    have hv : fst0 (anx T n g) t < t → ¬ orN (fst0 (anx T n g) t) t = -1 := fun a => by rw [orN, if_pos a]; exact nI_ne1 (by omega)
    have hv2 : ¬ fst0 (anx T n g) t < t → orN (fst0 (anx T n g) t) t = -1 := fun a => by rw [orN, if_neg a]
    by_cases hc : chg T t n = true
    · rw [← rn_1 hc, nt_val (by omega), ih]
      by_cases a : fst0 (anx T n g) t < t
      · rw [if_neg (fun q => hv a q.1), hk a]
      · by_cases b : anx T n g t = true
        · rw [if_pos ⟨hv2 a, by simpa [anx] using b⟩, hs b (by omega)]
        · rw [if_neg (fun q => b (by simpa [anx] using q.2)), hz (by simpa using b) a]
    · have hc : chg T t n = false := by simpa using hc
      rw [← rn_0 hc, ih]
      obtain ⟨c1, c2⟩ := anx_chg (l := g) hT hc
      by_cases a : fst0 (anx T n g) t < t
      · rw [hk a]
      · have : anx T n g t = false := by
          rcases Nat.eq_zero_or_pos t with q | q
          · exact c1 q
          · rw [c2 q]; exact fst0_no _ t (t - 1) (by omega)
        rw [hz this a]
theorem fmo_eq (hT : TOK T n) (g : Nat) : fmo T n g = fmM T n g := rn_val hT g 100 (Nat.le_refl _)
/-- wins as the model marks them -/
theorem fst0_lt_s (q : Nat → Bool) (k : Nat) : fst0 q (k + 1) < k + 1 ↔ fst0 q k < k ∨ q k = true := by
  have hle := fst0_le q k
  rw [fst0]
  by_cases a : fst0 q k < k
  · rw [if_pos a]; exact ⟨fun _ => Or.inl a, fun _ => by omega⟩
  · rw [if_neg a]
    by_cases b : q k = true
    · rw [if_pos b]; exact ⟨fun _ => Or.inr b, fun _ => by omega⟩
    · rw [if_neg b]; exact ⟨fun w => by omega, fun w => w.elim (fun w => absurd w a) (fun w => absurd w b)⟩
def wx (T : Nat → Int32) (n t : Nat) (f : Nat → Int32) : Nat → Nat → Int32
  | 0 => f
  | x + 1 => match lb T x t (-1) n with
    | none => wx T n t f x
    | some g => upd (wx T n t f x) g (nI 1)
def wt (T : Nat → Int32) (n : Nat) (f : Nat → Int32) : Nat → Nat → Int32
  | 0 => f
  | t + 1 => wx T n t (wt T n f t) 64
theorem wx_n {f : Nat → Int32} (h : lb T x t (-1) n = none) : wx T n t f x = wx T n t f (x + 1) := by
  show _ = (match lb T x t (-1) n with | none => wx T n t f x | some g => upd (wx T n t f x) g (nI 1))
  rw [h]
theorem wx_s {f : Nat → Int32} {g : Nat} (h : lb T x t (-1) n = some g) : upd (wx T n t f x) g (nI 1) = wx T n t f (x + 1) := by
  show _ = (match lb T x t (-1) n with | none => wx T n t f x | some g => upd (wx T n t f x) g (nI 1))
  rw [h]
theorem wx_val {f : Nat → Int32} {g : Nat} : ∀ x, wx T n t f x g = if fst0 (isx T n g t) x < x then nI 1 else f g
  | 0 => rfl
  | x + 1 => by
    have ih := wx_val (f := f) (g := g) x
    have hle := fst0_le (isx T n g t) x
    have key : wx T n t f (x + 1) g = if isx T n g t x = true then nI 1 else wx T n t f x g := by
      cases hb : lb T x t (-1) n with
      | none => rw [← wx_n hb, if_neg (by simp [isx, hb])]
      | some k =>
        rw [← wx_s hb]
        by_cases hk : k = g
        · subst hk; rw [upd_s, if_pos (by simp [isx, hb])]
        · rw [upd_n (fun q => hk q.symm), if_neg (by simp [isx, hb, hk])]
    have hs := fst0_lt_s (isx T n g t) x
    rw [key, ih]
    by_cases b : fst0 (isx T n g t) x < x <;> by_cases c : isx T n g t x = true <;> simp [b, c, hs]
theorem wt_val {f : Nat → Int32} {g : Nat} : ∀ t, wt T n f t g = if fst0 (anx T n g) t < t then nI 1 else f g
  | 0 => rfl
  | t + 1 => by
    have ih := wt_val (f := f) (g := g) t
    have hs := fst0_lt_s (anx T n g) t
    have ha : fst0 (isx T n g t) 64 < 64 ↔ anx T n g t = true := by simp only [anx, decide_eq_true_eq]
    rw [wt, wx_val, ih]
    generalize fst0 (isx T n g t) 64 = z at ha
    by_cases b : fst0 (anx T n g) t < t <;> by_cases c : anx T n g t = true <;> simp [b, c, hs, ha]
def los (T : Nat → Int32) (n : Nat) : Nat → Nat
  | 0 => 0
  | i + 1 => los T n i + if fmo T n i = -1 then 1 else 0
theorem los_le (T : Nat → Int32) (n : Nat) : ∀ i, los T n i ≤ i
  | 0 => Nat.le_refl _
  | i + 1 => by have := los_le T n i; rw [los]; split <;> omega
theorem win_val (hT : TOK T n) {f : Nat → Int32} {g : Nat} (hg : g < 20) : wt T n (fillF f (nI 0) 20) 100 g = if fmo T n g = -1 then nI 0 else nI 1 := by
  rw [wt_val, fmo_eq hT, fmM, orN]
  by_cases a : fst0 (anx T n g) 100 < 100
  · rw [if_pos a, if_pos a, if_neg (nI_ne1 (by omega))]
  · rw [if_neg a, if_neg a, if_pos rfl]; simp [fillF, hg]
theorem fm_y (hT : TOK T n) (ht : t < 100) (hx : x < 64) (h : lb T x t (-1) n = some l) (hno : ∀ j, j < t → anx T n l j = false) : nI t = fmo T n l := by
  rw [fmo_eq hT]; exact orN_y ht (anx_y hx h) hno
theorem fm_n {b : Nat} (hT : TOK T n) (hl : l < n) (eb : T (l * 6 + 5) = nI b) (hb : b < 100) (ht : b < t) (hno : ∀ j, j < t → anx T n l j = false) : (-1 : Int32) = fmo T n l := by
  rw [fmo_eq hT]
  refine orN_n (i := 100) (Nat.le_refl _) (fun j hj => ?_)
  rcases Nat.lt_or_ge j t with q | q
  · exact hno j q
  · refine anx_n (fun x _ => ?_)
    simp only [isx, decide_eq_false_iff_not]
    intro hh
    have hc := lb_cnt n hh
    have : nI b < nI j := (nI_ltI (by omega) (by omega)).mpr (by omega)
    simp [cnt, lvB, inB, eb, this] at hc
theorem fm_in {c d : Nat} (hl : l < n) (ec : T (l * 6 + 2) = nI c) (ed : T (l * 6 + 3) = nI d) (hcd : c ≤ d) (hd : d < 64) (hx : d < x) (hno : ∀ j, c ≤ j → j < x → ¬ lb T j t (-1) n = some l) : anx T n l t = false := by
  refine anx_n (fun j hj => ?_)
  simp only [isx, decide_eq_false_iff_not]
  intro hh
  have hc := lb_cnt n hh
  by_cases q : c ≤ j ∧ j ≤ d
  · exact hno j q.1 (by omega) hh
  · rcases (show j < c ∨ d < j by omega) with q | q
    · have : nI j < nI c := (nI_ltI (by omega) (by omega)).mpr q
      simp [cnt, spB, inB, ec, this] at hc
    · have : nI d < nI j := (nI_ltI (by omega) (by omega)).mpr q
      simp [cnt, spB, inB, ed, this] at hc
theorem fm_0 {a : Nat} (hl : l < n) (ea : T (l * 6 + 4) = nI a) (ha : a < 100) : ∀ j, j < a → anx T n l j = false := fun j hj => by
  refine anx_n (fun x _ => ?_)
  simp only [isx, decide_eq_false_iff_not]
  intro hh
  have hc := lb_cnt n hh
  have : nI j < nI a := (nI_ltI (by omega) (by omega)).mpr hj
  simp [cnt, lvB, inB, ea, this] at hc
theorem fm_s {c : Nat} (h : ∀ j, c ≤ j → j < x → ¬ lb T j t (-1) n = some l) (h2 : ¬ lb T x t (-1) n = some l) : ∀ j, c ≤ j → j < x + 1 → ¬ lb T j t (-1) n = some l := fun j h1 h3 => (Nat.lt_or_ge j x).elim (fun q => h j h1 q) (fun q => by rw [show j = x by omega]; exact h2)
theorem w_0 {v : Int32} (h : (if v = -1 then nI 0 else nI 1) = 0) : v = -1 := by
  by_cases q : v = -1
  · exact q
  · rw [if_neg q] at h; exact absurd h (by decide)
theorem w_1 {v : Int32} (h : ¬ (if v = -1 then nI 0 else nI 1) = 0) : ¬ v = -1 := fun q => h (by rw [if_pos q]; rfl)
theorem oI_eq {l : Nat} (hl : l < 2 ^ 31) (hn : n < 2 ^ 31) : oI (lb T x t (-1) n) = nI l ↔ lb T x t (-1) n = some l := by
  cases hb : lb T x t (-1) n with
  | none => exact ⟨fun q => absurd q.symm (nI_ne1 hl), fun q => by cases q⟩
  | some g =>
    have := lb_lt _ _ _ _ _ _ hb
    show nI g = nI l ↔ some g = some l
    rw [nI_eq (by omega) hl]
    exact ⟨fun q => by rw [q], fun q => by cases q; rfl⟩
end FM
