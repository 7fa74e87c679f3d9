/-! what is worked out from the lines: the lowest lines at present, the rows of places, the first moments; a text read -/
def plo (T : Nat → Int32) (n mo x : Nat) : Int32 := oI (lb T x mo (-1) n)
def beg (T : Nat → Int32) (n mo x : Nat) : Bool := decide (x = 0) || !decide (plo T n mo x = plo T n mo (x - 1))
def rc (T : Nat → Int32) (n mo : Nat) : Nat → Nat
  | 0 => 0
  | x + 1 => rc T n mo x + if beg T n mo x = true then 1 else 0
def plc (T : Nat → Int32) (n mo : Nat) (ln : Int32) : Nat → Nat
  | 0 => 0
  | x + 1 => plc T n mo ln x + if plo T n mo x = ln then 1 else 0
/-- the first number below n with p; n, if there is none -/
def fst0 (p : Nat → Bool) : Nat → Nat
  | 0 => 0
  | n + 1 => if fst0 p n < n then fst0 p n else if p n = true then n else n + 1
theorem fst0_le (p : Nat → Bool) : ∀ n, fst0 p n ≤ n
  | 0 => Nat.le_refl _
  | n + 1 => by
    unfold fst0
    split
    · omega
    · split <;> omega
theorem fst0_no (p : Nat → Bool) : ∀ n k, k < fst0 p n → p k = false
  | 0, k, h => absurd h (Nat.not_lt_zero k)
  | n + 1, k, h => by
    have ih := fst0_no p n k
    have hl := fst0_le p n
    unfold fst0 at h
    split at h
    · exact ih h
    · rename_i h1
      split at h
      · exact ih (by omega)
      · rename_i h2
        rcases Nat.lt_or_ge k n with q | q
        · exact ih (by omega)
        · rw [show k = n by omega]; simpa using h2
theorem fst0_yes (p : Nat → Bool) : ∀ n, fst0 p n < n → p (fst0 p n) = true
  | 0, h => absurd h (Nat.not_lt_zero _)
  | n + 1, h => by
    have ih := fst0_yes p n
    unfold fst0 at h ⊢
    split at h
    · rename_i h1; rw [if_pos h1]; exact ih h1
    · rename_i h1
      rw [if_neg h1]
      split at h
      · rename_i h2; rw [if_pos h2]; exact h2
      · omega
theorem fst0_is {p : Nat → Bool} {n k : Nat} (hk : k < n) (hp : p k = true) (hn : ∀ j, j < k → p j = false) : fst0 p n = k := by
  rcases Nat.lt_trichotomy (fst0 p n) k with q | q | q
  · have := fst0_yes p n (by omega)
    rw [hn _ q] at this; cases this
  · exact q
  · have := fst0_no p n k q
    rw [hp] at this; cases this
theorem fst0_end {p : Nat → Bool} {n : Nat} (hn : ∀ j, j < n → p j = false) : fst0 p n = n := by
  rcases Nat.lt_or_ge (fst0 p n) n with q | q
  · have := fst0_yes p n q
    rw [hn _ q] at this; cases this
  · have := fst0_le p n; omega
def rowS (T : Nat → Int32) (n mo r : Nat) : Nat := fst0 (fun x => beg T n mo x && decide (rc T n mo x = r)) 64
section RCS
variable {T : Nat → Int32} {n mo : Nat}
theorem rc_le (T : Nat → Int32) (n mo : Nat) : ∀ x, rc T n mo x ≤ x
  | 0 => Nat.le_refl _
  | x + 1 => by have := rc_le T n mo x; unfold rc; split <;> omega
theorem rc_mono (T : Nat → Int32) (n mo y : Nat) : ∀ x, y ≤ x → rc T n mo y ≤ rc T n mo x
  | 0, h => by rw [show y = 0 by omega]; exact Nat.le_refl _
  | x + 1, h => by
    rcases Nat.lt_or_ge x y with q | q
    · rw [show y = x + 1 by omega]; exact Nat.le_refl _
    · have := rc_mono T n mo y x q
      show _ ≤ rc T n mo x + _
      omega
theorem rc_b {x : Nat} (h : beg T n mo x = true) : rc T n mo (x + 1) = rc T n mo x + 1 := by rw [rc, if_pos h]
theorem rc_n {x : Nat} (h : beg T n mo x = false) : rc T n mo (x + 1) = rc T n mo x := by rw [rc, if_neg (by simp [h])]; rfl
theorem rc_lt {x y : Nat} (h : beg T n mo y = true) (hx : y < x) : rc T n mo y < rc T n mo x := by
  have h1 := rc_b h
  have h2 := rc_mono T n mo (y + 1) x hx
  omega
def POK (T : Nat → Int32) (n mo ver : Nat) (P : PT) : Prop := P.2.2.2 = nI ver ∧ (∀ x, x < 64 → P.1 x = plo T n mo x) ∧ P.2.2.1 = rc T n mo 64 ∧ (∀ x, x < 64 → beg T n mo x = true → P.2.1 (rc T n mo x) = nI x) ∧ P.2.1 (rc T n mo 64) = nI 64
/-- the version of something worked out is none of the versions to come -/
def old (ver : Nat) (v : Int32) : Prop := v = -1 ∨ ∃ w, w ≤ ver ∧ v = nI w
def PCI (T : Nat → Int32) (n mo ver : Nat) (P : PT) : Prop := old ver P.2.2.2 ∧ (P.2.2.2 = nI ver → POK T n mo ver P)
theorem POK.ci {ver : Nat} {P : PT} (h : POK T n mo ver P) : PCI T n mo ver P := ⟨Or.inr ⟨ver, Nat.le_refl _, h.1⟩, fun _ => h⟩
theorem old.ne {ver ver' : Nat} {v : Int32} (h : old ver v) (hv : ver < ver') (hb : ver' < 2 ^ 31) : ¬ v = nI ver' := by
  rcases h with rfl | ⟨w, hw, rfl⟩
  · intro q
    have q2 : (-1 : Int32).toInt = (nI ver').toInt := congrArg Int32.toInt q
    rw [nI_toInt hb] at q2
    have : (-1 : Int32).toInt = -1 := by decide
    omega
  · intro q
    have := (nI_eq (by omega) hb).mp q
    omega
theorem old.up {ver ver' : Nat} {v : Int32} (h : old ver v) (hv : ver ≤ ver') : old ver' v := by
  rcases h with h | ⟨w, hw, h⟩
  · exact Or.inl h
  · exact Or.inr ⟨w, by omega, h⟩
theorem PCI.bump {T' : Nat → Int32} {n' mo' ver ver' : Nat} {P : PT} (h : PCI T n mo ver P) (hv : ver < ver') (hb : ver' < 2 ^ 31) : PCI T' n' mo' ver' P := ⟨h.1.up (by omega), fun q => absurd q (h.1.ne hv hb)⟩
theorem upd_s {f : Nat → Int32} {k : Nat} {v : Int32} : upd f k v k = v := by simp [upd]
theorem upd_n {f : Nat → Int32} {k j : Nat} {v : Int32} (h : ¬ j = k) : upd f k v j = f j := by simp [upd, h]
theorem pl_step {lo : Nat → Int32} {i : Nat} (h : ∀ x, x < i → lo x = plo T n mo x) : ∀ x, x < i + 1 → upd lo i (oI (lb T i mo (-1) n)) x = plo T n mo x := by
  intro x hx
  by_cases q : x = i
  · subst q; rw [upd_s]; rfl
  · rw [upd_n q]; exact h x (by omega)
theorem beg_0 {i : Nat} (h : i = 0) : beg T n mo i = true := by simp [beg, h]
theorem beg_n {lo : Nat → Int32} {i : Nat} (h : ∀ x, x < i → lo x = plo T n mo x) (h0 : ¬ i = 0) (he : upd lo i (oI (lb T i mo (-1) n)) i = upd lo i (oI (lb T i mo (-1) n)) (i - 1)) : beg T n mo i = false := by
  rw [upd_s, upd_n (by omega), h (i - 1) (by omega)] at he
  have he : plo T n mo i = plo T n mo (i - 1) := he
  simp [beg, h0, he]
theorem beg_y {lo : Nat → Int32} {i : Nat} (h : ∀ x, x < i → lo x = plo T n mo x) (h0 : ¬ i = 0) (he : ¬ upd lo i (oI (lb T i mo (-1) n)) i = upd lo i (oI (lb T i mo (-1) n)) (i - 1)) : beg T n mo i = true := by
  rw [upd_s, upd_n (by omega), h (i - 1) (by omega)] at he
  have he : ¬ plo T n mo i = plo T n mo (i - 1) := he
  simp [beg, he]
theorem st_stepb {sts : Nat → Int32} {i rw : Nat} (hst : ∀ x, x < i → beg T n mo x = true → sts (rc T n mo x) = nI x) (hrw : rw = rc T n mo i) (hb : beg T n mo i = true) : ∀ x, x < i + 1 → beg T n mo x = true → upd sts rw (nI i) (rc T n mo x) = nI x := by
  intro x hx hbx
  by_cases q : x = i
  · subst q; subst hrw; rw [upd_s]
  · have := rc_lt (x := i) hbx (by omega)
    rw [upd_n (by omega)]; exact hst x (by omega) hbx
theorem st_stepn {sts : Nat → Int32} {i : Nat} (hst : ∀ x, x < i → beg T n mo x = true → sts (rc T n mo x) = nI x) (hb : beg T n mo i = false) : ∀ x, x < i + 1 → beg T n mo x = true → sts (rc T n mo x) = nI x := by
  intro x hx hbx
  by_cases q : x = i
  · subst q; rw [hb] at hbx; cases hbx
  · exact hst x (by omega) hbx
theorem rw_stepb {i rw : Nat} (hrw : rw = rc T n mo i) (hb : beg T n mo i = true) : rw + 1 = rc T n mo (i + 1) := by rw [rc_b hb, hrw]
theorem rw_stepn {i rw : Nat} (hrw : rw = rc T n mo i) (hb : beg T n mo i = false) : rw = rc T n mo (i + 1) := by rw [rc_n hb, hrw]
theorem POK_end {ver : Nat} {lo sts : Nat → Int32} {i rw : Nat} (hi : i = 64) (hlo : ∀ x, x < i → lo x = plo T n mo x) (hst : ∀ x, x < i → beg T n mo x = true → sts (rc T n mo x) = nI x) (hrw : rw = rc T n mo i) : POK T n mo ver (lo, upd sts rw (nI 64), rw, nI ver) := by
  subst hi; subst hrw
  refine ⟨rfl, hlo, rfl, fun x hx hb => ?_, upd_s⟩
  have := rc_lt (x := 64) hb hx
  show upd sts (rc T n mo 64) (nI 64) (rc T n mo x) = nI x
  rw [upd_n (by omega)]; exact hst x hx hb
theorem rc_at {r : Nat} : ∀ x, r < rc T n mo x → ∃ y, y < x ∧ beg T n mo y = true ∧ rc T n mo y = r
  | 0, h => absurd h (Nat.not_lt_zero _)
  | x + 1, h => by
    by_cases hb : beg T n mo x = true
    · rw [rc_b hb] at h
      rcases Nat.lt_or_ge r (rc T n mo x) with q | q
      · obtain ⟨y, h1, h2⟩ := rc_at x q
        exact ⟨y, by omega, h2⟩
      · exact ⟨x, by omega, hb, by omega⟩
    · rw [rc_n (by simpa using hb)] at h
      obtain ⟨y, h1, h2⟩ := rc_at x h
      exact ⟨y, by omega, h2⟩
theorem rowS_at {x : Nat} (hx : x < 64) (hb : beg T n mo x = true) : rowS T n mo (rc T n mo x) = x := by
  refine fst0_is hx (by simp [hb]) (fun j hj => ?_)
  by_cases hbj : beg T n mo j = true
  · have := rc_lt (x := x) hbj hj
    simp; intro _; omega
  · simp [hbj]
theorem rowS_end : rowS T n mo (rc T n mo 64) = 64 := by
  refine fst0_end (fun j hj => ?_)
  by_cases hbj : beg T n mo j = true
  · have := rc_lt (x := 64) hbj hj
    simp; intro _; omega
  · simp [hbj]
theorem rowS_of {ver : Nat} {P : PT} (h : POK T n mo ver P) {r : Nat} (hr : r ≤ rc T n mo 64) : P.2.1 r = nI (rowS T n mo r) := by
  rcases Nat.lt_or_ge r (rc T n mo 64) with q | q
  · obtain ⟨y, h1, h2, rfl⟩ := rc_at 64 q
    rw [rowS_at h1 h2]; exact h.2.2.2.1 y h1 h2
  · rw [show r = rc T n mo 64 by omega, rowS_end]; exact h.2.2.2.2
end RCS
def fillF (f : Nat → Int32) (v : Int32) (k : Nat) : Nat → Int32 := fun j => if j < k then v else f j
theorem fillF_0 {f : Nat → Int32} {v : Int32} : f = fillF f v 0 := by funext j; simp [fillF]
theorem fillF_s {f : Nat → Int32} {v : Int32} {i : Nat} : upd (fillF f v i) i v = fillF f v (i + 1) := by
  funext j
  by_cases q : j = i
  · subst q; simp [upd, fillF]
  · have : (j < i + 1) = (j < i) := by apply propext; omega
    simp [upd, fillF, q, this]
/-- the first moments: behind one moment's places, behind the moments -/
def nt (T : Nat → Int32) (n t : Nat) (fm : Nat → Int32) : Nat → Nat → Int32
  | 0 => fm
  | x + 1 => match lb T x t (-1) n with
    | none => nt T n t fm x
    | some g => if nt T n t fm x g = -1 then upd (nt T n t fm x) g (nI t) else nt T n t fm x
def rn (T : Nat → Int32) (n : Nat) (f : Nat → Int32) : Nat → Nat → Int32
  | 0 => f
  | t + 1 => if chg T t n = true then nt T n t (rn T n f t) 64 else rn T n f t
def fmo (T : Nat → Int32) (n g : Nat) : Int32 := rn T n (fun _ => -1) 100 g
def nvr (T : Nat → Int32) (n : Nat) : Nat → Int32
  | 0 => nI 0
  | i + 1 => if fmo T n i = -1 then nvr T n i ||| (nI 1 <<< (nI i &&& 31)) else nvr T n i
section RNS
variable {T : Nat → Int32} {n t x : Nat} {fm : Nat → Int32}
theorem nt_0 (h : lb T x t (-1) n = none) : nt T n t fm x = nt T n t fm (x + 1) := by
  show _ = (match lb T x t (-1) n with | none => nt T n t fm x | some g => if nt T n t fm x g = -1 then upd (nt T n t fm x) g (nI t) else nt T n t fm x)
  rw [h]
theorem nt_1 {g : Nat} (h : lb T x t (-1) n = some g) (h2 : nt T n t fm x g = -1) : upd (nt T n t fm x) g (nI t) = nt T n t fm (x + 1) := by
  show _ = (match lb T x t (-1) n with | none => nt T n t fm x | some g => if nt T n t fm x g = -1 then upd (nt T n t fm x) g (nI t) else nt T n t fm x)
  rw [h]
  exact (if_pos h2).symm
theorem nt_2 {g : Nat} (h : lb T x t (-1) n = some g) (h2 : ¬ nt T n t fm x g = -1) : nt T n t fm x = nt T n t fm (x + 1) := by
  show _ = (match lb T x t (-1) n with | none => nt T n t fm x | some g => if nt T n t fm x g = -1 then upd (nt T n t fm x) g (nI t) else nt T n t fm x)
  rw [h]
  exact (if_neg h2).symm
theorem rn_1 (h : chg T t n = true) : nt T n t (rn T n fm t) 64 = rn T n fm (t + 1) := by rw [rn, if_pos h]
theorem rn_0 (h : chg T t n = false) : rn T n fm t = rn T n fm (t + 1) := by rw [rn, if_neg (by simp [h])]
theorem nt_cong {f g : Nat → Int32} (hn : n ≤ 20) (h : ∀ j, j < 20 → f j = g j) : ∀ x j, j < 20 → nt T n t f x j = nt T n t g x j
  | 0, j, hj => h j hj
  | x + 1, j, hj => by
    have ih := nt_cong hn h x
    show (match lb T x t (-1) n with | none => nt T n t f x | some k => if nt T n t f x k = -1 then upd (nt T n t f x) k (nI t) else nt T n t f x) j = (match lb T x t (-1) n with | none => nt T n t g x | some k => if nt T n t g x k = -1 then upd (nt T n t g x) k (nI t) else nt T n t g x) j
    cases hl : lb T x t (-1) n with
    | none => exact ih j hj
    | some k =>
      have hk := lb_lt _ _ _ _ _ _ hl
      have e := ih k (by omega)
      show (if nt T n t f x k = -1 then upd (nt T n t f x) k (nI t) else nt T n t f x) j = (if nt T n t g x k = -1 then upd (nt T n t g x) k (nI t) else nt T n t g x) j
      rw [e]
      split
      · by_cases q : j = k
        · subst q; rw [upd_s, upd_s]
        · rw [upd_n q, upd_n q]; exact ih j hj
      · exact ih j hj
theorem rn_cong {f g : Nat → Int32} (hn : n ≤ 20) (h : ∀ j, j < 20 → f j = g j) : ∀ t j, j < 20 → rn T n f t j = rn T n g t j
  | 0, j, hj => h j hj
  | t + 1, j, hj => by
    have ih := rn_cong hn h t
    unfold rn
    split
    · exact nt_cong hn ih 64 j hj
    · exact ih j hj
def RK (T : Nat → Int32) (n ver : Nat) (Rg : RT) : Prop := Rg.2 = nI ver ∧ ∃ f0, Rg.1 = rn T n (fillF f0 (-1) 20) 100
def RCI (T : Nat → Int32) (n ver : Nat) (Rg : RT) : Prop := old ver Rg.2 ∧ (Rg.2 = nI ver → RK T n ver Rg)
theorem RK.ci {ver : Nat} {Rg : RT} (h : RK T n ver Rg) : RCI T n ver Rg := ⟨Or.inr ⟨ver, Nat.le_refl _, h.1⟩, fun _ => h⟩
theorem RCI.bump {T' : Nat → Int32} {n' ver ver' : Nat} {Rg : RT} (h : RCI T n ver Rg) (hv : ver < ver') (hb : ver' < 2 ^ 31) : RCI T' n' ver' Rg := ⟨h.1.up (by omega), fun q => absurd q (h.1.ne hv hb)⟩
theorem RK.val {ver : Nat} {Rg : RT} (h : RK T n ver Rg) (hn : n ≤ 20) {g : Nat} (hg : g < 20) : Rg.1 g = fmo T n g := by
  obtain ⟨-, f0, h2⟩ := h
  rw [h2]
  exact rn_cong hn (fun j hj => by simp [fillF, hj]) 100 g hg
end RNS
