/-! what the calls of the face answer, as plain functions of the table, the size, the present moment -/
def slB (x : Int32) : Bool := inB x (-99) (nI 99)
def ofB (x : Int32) : Bool := inB x (-9999) (nI 9999)
def plB (x : Int32) : Bool := inB x (nI 0) (nI 63)
def moB (x : Int32) : Bool := inB x (nI 0) (nI 99)
def stB (f l e : Int32) : Bool := !decide (f < 0) && (!decide (l < f) && !decide (e ≤ l))
theorem i32_le_succ (x : Int32) {k : Nat} (hk : k < 2147483647) : nI (k + 1) ≤ x ↔ nI k < x := by
  rw [Int32.le_iff_toInt_le, Int32.lt_iff_toInt_lt, nI_toInt (by omega), nI_toInt (by omega)]; omega
theorem inB_of {x : Int32} {k : Nat} (hk : k < 2147483647) (h : inB x (nI 0) (nI k) = true) : ∃ j, j < k + 1 ∧ x = nI j := by
  simp only [inB, Bool.and_eq_true, Bool.not_eq_true', decide_eq_false_iff_not] at h
  obtain ⟨j, hj, rfl⟩ := nI_of (x := x) (by rw [← nI_0]; exact h.1)
  have : j ≤ k := Nat.not_lt.mp (fun q => h.2 ((nI_ltI (by omega) hj).mpr q))
  exact ⟨j, by omega, rfl⟩
theorem inB_t {j k : Nat} (h : j ≤ k) (hk : k < 2147483647) : inB (nI j) (nI 0) (nI k) = true := by
  have h1 : ¬ nI j < nI 0 := fun q => by have := (nI_ltI (by omega) (by omega)).mp q; omega
  have h2 : ¬ nI k < nI j := fun q => by have := (nI_ltI (by omega) (by omega)).mp q; omega
  simp [inB, h1, h2]
theorem plB_of {x : Int32} (h : plB x = true) : ∃ j, j < 64 ∧ x = nI j := inB_of (k := 63) (by decide) h
theorem moB_of {x : Int32} (h : moB x = true) : ∃ j, j < 100 ∧ x = nI j := inB_of (k := 99) (by decide) h
theorem plB_t {j : Nat} (h : j < 64) : plB (nI j) = true := inB_t (k := 63) (by omega) (by decide)
theorem moB_t {j : Nat} (h : j < 100) : moB (nI j) = true := inB_t (k := 99) (by omega) (by decide)
theorem stB_of {f l : Int32} {e : Nat} (he : e < 2147483648) (h : stB f l (nI e) = true) : ∃ a b, a ≤ b ∧ b < e ∧ f = nI a ∧ l = nI b := by
  simp only [stB, Bool.and_eq_true, Bool.not_eq_true', decide_eq_false_iff_not] at h
  obtain ⟨h1, h2, h3⟩ := h
  obtain ⟨a, ha, rfl⟩ := nI_of h1
  have h4 : ¬ l < 0 := fun q => h2 (by
    have : (0 : Int32) ≤ nI a := nI_pos' ha
    rw [Int32.lt_iff_toInt_lt] at q ⊢
    rw [Int32.le_iff_toInt_le] at this
    omega)
  obtain ⟨b, hb, rfl⟩ := nI_of h4
  exact ⟨a, b, Nat.not_lt.mp (fun q => h2 ((nI_ltI hb ha).mpr q)), Nat.not_le.mp (fun q => h3 ((nI_leI (by omega) hb).mpr q)), rfl, rfl⟩
theorem stB_t {a b e : Nat} (h : a ≤ b) (hb : b < e) (he : e < 2147483648) : stB (nI a) (nI b) (nI e) = true := by
  have h1 : ¬ nI a < 0 := nI_pos (by omega)
  have h2 : ¬ nI b < nI a := fun q => by have := (nI_ltI (by omega) (by omega)).mp q; omega
  have h3 : ¬ nI e ≤ nI b := fun q => by have := (nI_leI (by omega) (by omega)).mp q; omega
  simp [stB, h1, h2, h3]
/-- a number from 0 to k, one of them; or outside -/
theorem i32_upto (x : Int32) (k : Nat) (hk : k < 2147483647) : (∃ j, j ≤ k ∧ x = nI j) ∨ (x.toInt < 0 ∨ (k : Int) < x.toInt) := by
  by_cases h : x < 0
  · right; left; rw [Int32.lt_iff_toInt_lt] at h; simpa using h
  · obtain ⟨j, hj, rfl⟩ := nI_of h
    rw [nI_toInt hj]
    by_cases q : j ≤ k
    · exact Or.inl ⟨j, q, rfl⟩
    · right; right; omega
def rkP (T : Nat → Int32) (n mo x rk : Nat) (l : Nat) : Bool := cnt T l x mo && decide (rnk T l x mo n = rk)
def orN (k m : Nat) : Int32 := if k < m then nI k else -1
def rkV (T : Nat → Int32) (n mo x rk : Nat) : Int32 := orN (fst0 (rkP T n mo x rk) n) n
def rowV (T : Nat → Int32) (n mo ro wh : Nat) : Int32 := if ro < rc T n mo 64 then (if wh = 0 then nI (rowS T n mo ro) else if wh = 1 then nI (rowS T n mo (ro + 1)) - nI (rowS T n mo ro) else plo T n mo (rowS T n mo ro)) else -1
def sm (T : Nat → Int32) (n mo a : Nat) : Nat → Int32
  | 0 => nI 0
  | k + 1 => match lb T (a + k) mo (-1) n with
    | none => sm T n mo a k
    | some g => sm T n mo a k + pVal T g (a + k)
def ifa (T : Nat → Int32) (n mo : Nat) (sl off : Int32) : Nat → Nat
  | 0 => 0
  | x + 1 => match lb T x mo (-1) n with
    | none => ifa T n mo sl off x + 1
    | some g => if pVal T g x ≤ sl * nI x + off then ifa T n mo sl off x else ifa T n mo sl off x + 1
def hiB (T : Nat → Int32) (n mo : Nat) (sl : Int32) : Nat → Int32
  | 0 => -10000
  | x + 1 => match lb T x mo (-1) n with
    | none => hiB T n mo sl x
    | some g => if hiB T n mo sl x < pVal T g x - nI 1 - sl * nI x then pVal T g x - nI 1 - sl * nI x else hiB T n mo sl x
def bare (T : Nat → Int32) (n mo x : Nat) : Bool := decide (lb T x mo (-1) n = none)
def hiC (T : Nat → Int32) (n mo : Nat) (sl : Int32) : Int32 := if fst0 (bare T n mo) 64 < 64 then nI 9999 else (if nI 9999 < hiB T n mo sl 64 then nI 9999 else hiB T n mo sl 64)
def wo (T : Nat → Int32) (n mo l : Nat) : Nat → Option Int32
  | 0 => some (nI 0)
  | x + 1 => match wo T n mo l x with
    | none => none
    | some s => if plo T n mo x = nI l then (match lb T x mo (nI l) n with
        | none => none
        | some g => some (s + (pVal T g x - pVal T l x))) else some s
def woO : Option Int32 → Int32
  | none => -1
  | some s => s
def woV (T : Nat → Int32) (n mo l : Nat) : Int32 := woO (wo T n mo l 64)
def chP (T : Nat → Int32) (n mo x t : Nat) : Bool := decide (mo < t) && !decide (oI (lb T x t (-1) n) = plo T n mo x)
def chA (T : Nat → Int32) (n mo x : Nat) : Int32 := orN (fst0 (chP T n mo x) 100) 100
def meP (T : Nat → Int32) (a b x : Nat) : Bool := spB T a x && (spB T b x && low T b a x)
def meV (T : Nat → Int32) (a b : Nat) : Int32 := orN (fst0 (meP T a b) 64) 64
/-- Integer.bitCount, as its bytes compute it -/
def bc1 (i : Int32) : Int32 := i - (((i.toUInt32 >>> ((nI 1).toUInt32 &&& Int32.toUInt32 31)).toInt32) &&& 1431655765)
def bc2 (i : Int32) : Int32 := (i &&& 858993459) + (((i.toUInt32 >>> ((nI 2).toUInt32 &&& Int32.toUInt32 31)).toInt32) &&& 858993459)
def bc3 (i : Int32) : Int32 := (i + ((i.toUInt32 >>> ((nI 4).toUInt32 &&& Int32.toUInt32 31)).toInt32)) &&& 252645135
def bc4 (i : Int32) : Int32 := i + ((i.toUInt32 >>> ((nI 8).toUInt32 &&& Int32.toUInt32 31)).toInt32)
def bc5 (i : Int32) : Int32 := i + ((i.toUInt32 >>> ((nI 16).toUInt32 &&& Int32.toUInt32 31)).toInt32)
def bcI (i : Int32) : Int32 := bc5 (bc4 (bc3 (bc2 (bc1 i)))) &&& nI 63
def cntV (T : Nat → Int32) (n mo h wh : Nat) : Int32 :=
  if wh = 0 then nI mo else if wh = 1 then nI n else if wh = 2 then nI (lvc T mo n) else if wh = 3 then nI (rc T n mo 64) else if wh = 4 then nI (plc T n mo (-1) 64)
  else if wh = 5 then sts T n mo 128 else if wh = 6 then nI 127 - nI (nds T n mo (-1) 128) else if wh = 7 then bcI (nvr T n n) else nI h
def linV (T : Nat → Int32) (n mo l wh : Nat) : Int32 :=
  if wh = 6 then nI (plc T n mo (nI l) 64) else if wh = 7 then nI (nds T n mo (nI l) 128) else if wh = 8 then fmo T n l else T (l * 6 + wh)
def ndV (T : Nat → Int32) (n mo k wh : Nat) : Int32 :=
  if wh = 0 then kp T n mo k else if wh = 1 then nI (gF k) else if wh = 2 then nI (gL k) else if wh = 3 then nI ((gF k + gL k) / 2) else stp T n mo k
section PUB
variable {T : Nat → Int32} {n mo : Nat}
theorem orN_y {p : Nat → Bool} {m i : Nat} (hi : i < m) (hp : p i = true) (hn : ∀ j, j < i → p j = false) : nI i = orN (fst0 p m) m := by rw [fst0_is hi hp hn, orN, if_pos hi]
theorem orN_n {p : Nat → Bool} {m i : Nat} (hi : m ≤ i) (hn : ∀ j, j < i → p j = false) : (-1 : Int32) = orN (fst0 p m) m := by rw [fst0_end (fun j hj => hn j (by omega)), orN, if_neg (by omega)]
theorem rowS_lt {r : Nat} (h : r < rc T n mo 64) : rowS T n mo r < 64 := by
  obtain ⟨y, h1, h2, rfl⟩ := rc_at 64 h
  rw [rowS_at h1 h2]; exact h1
theorem plo_n {x : Nat} (h : lb T x mo (-1) n = none) : plo T n mo x = -1 := by rw [plo, h]; rfl
theorem plo_s {x g : Nat} (h : lb T x mo (-1) n = some g) : plo T n mo x = nI g := by rw [plo, h]; rfl
theorem plo_eq {x l : Nat} (hn : n ≤ 20) (hl : l < n) : plo T n mo x = nI l ↔ lb T x mo (-1) n = some l := by
  constructor
  · intro h
    cases hb : lb T x mo (-1) n with
    | none => rw [plo_n hb] at h; exact absurd h.symm (nI_ne1 (by omega))
    | some g =>
      rw [plo_s hb] at h
      have := lb_lt _ _ _ _ _ _ hb
      rw [(nI_eq (by omega) (by omega)).mp h]
  · exact plo_s
theorem sm_n {a k : Nat} (h : lb T (a + k) mo (-1) n = none) : sm T n mo a (k + 1) = sm T n mo a k := by
  show (match lb T (a + k) mo (-1) n with | none => sm T n mo a k | some g => sm T n mo a k + pVal T g (a + k)) = _
  rw [h]
theorem sm_s {a k g : Nat} (h : lb T (a + k) mo (-1) n = some g) : sm T n mo a (k + 1) = sm T n mo a k + pVal T g (a + k) := by
  show (match lb T (a + k) mo (-1) n with | none => sm T n mo a k | some g => sm T n mo a k + pVal T g (a + k)) = _
  rw [h]
theorem ifa_n {sl off : Int32} {x : Nat} (h : lb T x mo (-1) n = none) : ifa T n mo sl off (x + 1) = ifa T n mo sl off x + 1 := by
  show (match lb T x mo (-1) n with | none => ifa T n mo sl off x + 1 | some g => if pVal T g x ≤ sl * nI x + off then ifa T n mo sl off x else ifa T n mo sl off x + 1) = _
  rw [h]
theorem ifa_1 {sl off : Int32} {x g : Nat} (h : lb T x mo (-1) n = some g) (h2 : pVal T g x ≤ sl * nI x + off) : ifa T n mo sl off (x + 1) = ifa T n mo sl off x := by
  show (match lb T x mo (-1) n with | none => ifa T n mo sl off x + 1 | some g => if pVal T g x ≤ sl * nI x + off then ifa T n mo sl off x else ifa T n mo sl off x + 1) = _
  rw [h]; exact if_pos h2
theorem ifa_2 {sl off : Int32} {x g : Nat} (h : lb T x mo (-1) n = some g) (h2 : ¬ pVal T g x ≤ sl * nI x + off) : ifa T n mo sl off (x + 1) = ifa T n mo sl off x + 1 := by
  show (match lb T x mo (-1) n with | none => ifa T n mo sl off x + 1 | some g => if pVal T g x ≤ sl * nI x + off then ifa T n mo sl off x else ifa T n mo sl off x + 1) = _
  rw [h]; exact if_neg h2
theorem hiB_s {sl : Int32} {x g : Nat} (h : lb T x mo (-1) n = some g) : hiB T n mo sl (x + 1) = if hiB T n mo sl x < pVal T g x - nI 1 - sl * nI x then pVal T g x - nI 1 - sl * nI x else hiB T n mo sl x := by
  show (match lb T x mo (-1) n with | none => hiB T n mo sl x | some g => if hiB T n mo sl x < pVal T g x - nI 1 - sl * nI x then pVal T g x - nI 1 - sl * nI x else hiB T n mo sl x) = _
  rw [h]
theorem bare_y {x : Nat} (h : lb T x mo (-1) n = none) : bare T n mo x = true := by simp [bare, h]
theorem bare_n {x g : Nat} (h : lb T x mo (-1) n = some g) : bare T n mo x = false := by simp [bare, h]
theorem hiC_1 {sl : Int32} {x : Nat} (hx : x < 64) (h : lb T x mo (-1) n = none) : nI 9999 = hiC T n mo sl := by
  rw [hiC, if_pos]
  rcases Nat.lt_or_ge (fst0 (bare T n mo) 64) 64 with q | q
  · exact q
  · have := fst0_no (bare T n mo) 64 x (by omega)
    rw [bare_y h] at this; cases this
theorem hiC_2 {sl : Int32} {x : Nat} (hx : x = 64) (h : ∀ j, j < x → bare T n mo j = false) : (if nI 9999 < hiB T n mo sl x then nI 9999 else hiB T n mo sl x) = hiC T n mo sl := by
  subst hx
  have e : fst0 (bare T n mo) 64 = 64 := fst0_end h
  unfold hiC
  rw [e]
  exact (if_neg (Nat.lt_irrefl 64)).symm
theorem wo_a {l x : Nat} {s : Int32} (hs : wo T n mo l x = some s) (h : ¬ plo T n mo x = nI l) : wo T n mo l (x + 1) = some s := by
  show (match wo T n mo l x with | none => none | some s => if plo T n mo x = nI l then _ else some s) = _
  rw [hs]; exact if_neg h
theorem wo_b {l x g : Nat} {s : Int32} (hs : wo T n mo l x = some s) (h : plo T n mo x = nI l) (hg : lb T x mo (nI l) n = some g) : wo T n mo l (x + 1) = some (s + (pVal T g x - pVal T l x)) := by
  show (match wo T n mo l x with | none => none | some s => if plo T n mo x = nI l then (match lb T x mo (nI l) n with | none => none | some g => some (s + (pVal T g x - pVal T l x))) else some s) = _
  rw [hs]
  show (if plo T n mo x = nI l then (match lb T x mo (nI l) n with | none => none | some g => some (s + (pVal T g x - pVal T l x))) else some s) = _
  rw [if_pos h, hg]
theorem wo_c {l x : Nat} {s : Int32} (hs : wo T n mo l x = some s) (h : plo T n mo x = nI l) (hg : lb T x mo (nI l) n = none) : wo T n mo l (x + 1) = none := by
  show (match wo T n mo l x with | none => none | some s => if plo T n mo x = nI l then (match lb T x mo (nI l) n with | none => none | some g => some (s + (pVal T g x - pVal T l x))) else some s) = _
  rw [hs]
  show (if plo T n mo x = nI l then (match lb T x mo (nI l) n with | none => none | some g => some (s + (pVal T g x - pVal T l x))) else some s) = _
  rw [if_pos h, hg]
theorem wo_none {l : Nat} {x : Nat} (h : wo T n mo l x = none) : ∀ k, x ≤ k → wo T n mo l k = none
  | 0, hk => by rw [show x = 0 by omega] at h; cases h
  | k + 1, hk => by
    rcases Nat.lt_or_ge k x with q | q
    · rw [show k + 1 = x by omega]; exact h
    · show (match wo T n mo l k with | none => none | some s => if plo T n mo k = nI l then _ else some s) = none
      rw [wo_none h k q]
theorem woV_1 {l x : Nat} {s : Int32} (hx : x < 64) (hs : wo T n mo l x = some s) (h : plo T n mo x = nI l) (hg : lb T x mo (nI l) n = none) : (-1 : Int32) = woV T n mo l := by
  have e : wo T n mo l 64 = none := wo_none (wo_c hs h hg) 64 hx
  show (-1 : Int32) = woO (wo T n mo l 64)
  generalize wo T n mo l 64 = o at e
  rw [e]; rfl
theorem woV_2 {l x : Nat} {s : Int32} (hx : x = 64) (hs : wo T n mo l x = some s) : s = woV T n mo l := by
  subst hx
  show s = woO (wo T n mo l 64)
  generalize wo T n mo l 64 = o at hs
  rw [hs]; rfl
end PUB
