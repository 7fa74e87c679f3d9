/-! which exception a call of the face ends with (0: none), by its place in the order in which they are named -/
theorem plB_1 {x : Int32} (h : ¬ x < 0) (h2 : ¬ nI 64 ≤ x) : nI 1 = bI (plB x) := by
  have h3 : ¬ nI 63 < x := fun q => h2 ((i32_le_succ x (k := 63) (by decide)).mpr q)
  simp [plB, inB, bI, nI_0, h, h3]; rfl
theorem plB_2 {x : Int32} (h : x < 0) : nI 0 = bI (plB x) := by simp [plB, inB, bI, nI_0, h]
theorem plB_3 {x : Int32} (h2 : nI 64 ≤ x) : nI 0 = bI (plB x) := by
  have h3 : nI 63 < x := (i32_le_succ x (k := 63) (by decide)).mp h2
  simp [plB, inB, bI, nI_0, h3]
theorem moB_1 {x : Int32} (h : ¬ x < 0) (h2 : ¬ nI 100 ≤ x) : nI 1 = bI (moB x) := by
  have h3 : ¬ nI 99 < x := fun q => h2 ((i32_le_succ x (k := 99) (by decide)).mpr q)
  simp [moB, inB, bI, nI_0, h, h3]; rfl
theorem moB_2 {x : Int32} (h : x < 0) : nI 0 = bI (moB x) := by simp [moB, inB, bI, nI_0, h]
theorem moB_3 {x : Int32} (h2 : nI 100 ≤ x) : nI 0 = bI (moB x) := by
  have h3 : nI 99 < x := (i32_le_succ x (k := 99) (by decide)).mp h2
  simp [moB, inB, bI, nI_0, h3]
theorem code_of {x : Int32} (h1 : ¬ x < nI 33) (h2 : x ≤ nI 126) : ∃ k, 33 ≤ k ∧ k ≤ 126 ∧ x = nI k := by
  have h0 : ¬ x < 0 := by
    rw [Int32.lt_iff_toInt_lt, nI_toInt (by decide)] at h1
    rw [Int32.lt_iff_toInt_lt, Int32.toInt_zero]; omega
  obtain ⟨k, hk, rfl⟩ := nI_of h0
  exact ⟨k, Nat.not_lt.mp (fun q => h1 ((nI_ltI hk (by decide)).mpr q)), (nI_leI hk (by decide)).mp h2, rfl⟩
def cdB (x : Int32) : Bool := inB x (nI 33) (nI 126)
def xAdd (n : Nat) (sl off : Int32) : Nat := if slB sl = false then 1 else if ofB off = false then 1 else if 20 ≤ n then 2 else 0
def xStr (n : Nat) (line a b e : Int32) : Nat := if hasB n line = false then 1 else if stB a b e = false then 2 else 0
def xLift (T : Nat → Int32) (n : Nat) (line by_ : Int32) : Nat := if hasB n line = false then 1 else if ofB by_ = false then 2 else if ofB (T (line.toNatClampNeg * 6 + 1) + by_) = false then 3 else 0
def tuV (T : Nat → Int32) (line pl sl : Int32) : Int32 := pVal T line.toNatClampNeg pl.toNatClampNeg - sl * pl
def xTurn (T : Nat → Int32) (n : Nat) (line pl sl : Int32) : Nat := if hasB n line = false then 1 else if plB pl = false then 2 else if slB sl = false then 2 else if ofB (tuV T line pl sl) = false then 3 else 0
def xRem (n : Nat) (line : Int32) : Nat := if hasB n line = false then 1 else 0
def xGo (mm : Int32) : Nat := if moB mm = false then 1 else 0
def xApp (len : Nat) (code : Int32) : Nat := if code < nI 33 then 1 else if ¬ code ≤ nI 126 then 1 else if 60 ≤ len then 2 else 0
def xAll (n : Nat) (d : DT) (co : Nat → Int32) (len : Nat) : Nat := if rAll d co len = false then 1 else if 20 < n + (sc co len + 1) then 2 else 0
def xUndo (h : Nat) : Nat := if h = 0 then 1 else 0
theorem sc_lt (co : Nat → Int32) : ∀ i, sc co i ≤ i
  | 0 => Nat.le_refl _
  | i + 1 => by have := sc_lt co i; show sc co i + _ ≤ _; split <;> omega
/-! what a reader's later answers hang on: the rest of its state is what an earlier text left -/
def nrm (d : DT) : DT := (d.1, if d.1 = 2 ∨ d.1 = 5 ∨ d.1 = 7 ∨ d.1 = 9 then d.2.1 else 0, decide (d.1 < 6) && d.2.2.1, if 3 ≤ d.1 then d.2.2.2.1 else 0, if 6 ≤ d.1 then d.2.2.2.2.1 else 0, if 8 ≤ d.1 then d.2.2.2.2.2 else 0)
theorem nrm_st (d : DT) (h : d.1 ≤ 9) : nrm (rStart d) = (0, 0, false, 0, 0, 0) := by simp [nrm, rStart]
def exC (x nu k : Nat) : Bool := decide (dg x = true ∧ nu ≠ 0 ∧ nu * 10 + x - 48 ≤ k)
def exN (x nu : Nat) : Nat := nu * 10 + x - 48
def mayC (nu fi : Nat) : Bool := decide (fi ≤ nu) || (decide (0 < nu) && (decide (nu < 10) && decide (fi ≤ nu * 10 + 9)))
def leC (a b : Nat) : Bool := decide (a ≤ b)
theorem rExtends_c (d : DT) (x k : Nat) : rExtends d x k = if exC x d.2.1 k = true then (true, (d.1, exN x d.2.1, d.2.2)) else (false, d) := by simp only [rExtends, exC, exN, decide_eq_true_eq]
theorem rMay_c (d : DT) : rMay d = mayC d.2.1 d.2.2.2.2.2 := rfl
theorem rWhole_c (d : DT) : rWhole d = (decide (d.1 = 5) || (decide (d.1 = 9) && leC d.2.2.2.2.2 d.2.1)) := rfl
theorem nrm_takes (d : DT) (x : Nat) (h : d.1 ≤ 9) : (rTakes d x).1 = (rTakes (nrm d) x).1 ∧ nrm (rTakes d x).2 = nrm (rTakes (nrm d) x).2 := by
  obtain ⟨sg, nu, ng, sl, off, fi⟩ := d
  have h : sg ≤ 9 := h
  rcases (show sg = 0 ∨ sg = 1 ∨ sg = 2 ∨ sg = 3 ∨ sg = 4 ∨ sg = 5 ∨ sg = 6 ∨ sg = 7 ∨ sg = 8 ∨ sg = 9 by omega) with rfl | rfl | rfl | rfl | rfl | rfl | rfl | rfl | rfl | rfl
  · by_cases a : x = 45 <;> by_cases b : dg x = true <;> simp [nrm, rTakes, rNeg, rStartsNumber, a, b]
  · by_cases b : dg x = true <;> simp [nrm, rTakes, rStartsNumber, b]
  · by_cases a : x = 120 <;> by_cases b : exC x nu 99 = true <;> cases ng <;> simp [nrm, rTakes, rEndsSlope, rExtends_c, rSigned, a, b]
  · by_cases a : x = 45 <;> by_cases b : x = 43 <;> simp [nrm, rTakes, rSign, rNeg, a, b]
  · by_cases b : dg x = true <;> simp [nrm, rTakes, rStartsNumber, b]
  · by_cases a : x = 59 <;> by_cases c : x = 64 <;> by_cases b : exC x nu 9999 = true <;> cases ng <;> simp [nrm, rTakes, rOff, rStart, rExtends_c, rSigned, a, b, c]
  · by_cases b : dg x = true <;> simp [nrm, rTakes, rStartsNumber, b]
  · by_cases a : x = 45 <;> by_cases b : exC x nu 99 = true <;> simp [nrm, rTakes, rEndsFirst, rExtends_c, a, b]
  · by_cases b : dg x = true <;> simp [nrm, rTakes, rStartsNumber, rMay_c, b]
  · by_cases a : x = 59 <;> by_cases b : exC x nu 99 = true <;> cases c : leC fi nu <;> simp [nrm, rTakes, rLast, rStart, rWhole_c, rMay_c, rExtends_c, a, b, c]
theorem nrm_whole (d : DT) : rWhole d = rWhole (nrm d) := by
  by_cases h : d.1 = 5 <;> by_cases h2 : d.1 = 9 <;> simp [rWhole_c, nrm, h, h2]
theorem nrm_wr {d : DT} (h : d.1 = 5 ∨ d.1 = 9) (T : Nat → Int32) (n : Nat) : rWr d T n = rWr (nrm d) T n := by
  rcases h with h | h <;> simp [rWr, nrm, rSigned, h]
section NRM
variable {co : Nat → Int32} {len : Nat} {d d' : DT}
theorem nrm_run (hX : TXOK co len) (hD : DOK d) (hD' : DOK d') : ∀ i, i ≤ len → nrm (rRun d co i) = nrm (rRun d' co i)
  | 0, _ => by rw [rRun, rRun, nrm_st d hD.1, nrm_st d' hD'.1]
  | i + 1, hi => by
    rw [rRun, rRun, (nrm_takes _ _ (rRun_ok hX hD (by omega : i ≤ len)).1).2, (nrm_takes _ _ (rRun_ok hX hD' (by omega : i ≤ len)).1).2, nrm_run hX hD hD' i (by omega)]
theorem nrm_ok (hX : TXOK co len) (hD : DOK d) (hD' : DOK d') {i : Nat} (hi : i ≤ len) : (rTakes (rRun d co i) (cN co i)).1 = (rTakes (rRun d' co i) (cN co i)).1 := by
  rw [(nrm_takes _ _ (rRun_ok hX hD hi).1).1, (nrm_takes _ _ (rRun_ok hX hD' hi).1).1, nrm_run hX hD hD' i hi]
theorem fst0_cong {f g : Nat → Bool} : ∀ {n : Nat}, (∀ j, j < n → f j = g j) → fst0 f n = fst0 g n
  | 0, _ => rfl
  | n + 1, h => by rw [fst0, fst0, fst0_cong (fun j hj => h j (by omega)), h n (by omega)]
theorem nrm_err (hX : TXOK co len) (hD : DOK d) (hD' : DOK d') : rErr d co len = rErr d' co len :=
  fst0_cong (fun j hj => by rw [nrm_ok hX hD hD' (by omega)])
theorem nrm_all (hX : TXOK co len) (hD : DOK d) (hD' : DOK d') : rAll d co len = rAll d' co len := by
  rw [rAll, rAll, nrm_err hX hD hD', nrm_whole, nrm_run hX hD hD' _ (by omega), ← nrm_whole]
theorem nrm_wg (hX : TXOK co len) (hD : DOK d) (hD' : DOK d') (hA : rAll d co len = true) (T : Nat → Int32) (n : Nat) : ∀ i, i ≤ len → rWg d co T n i = rWg d' co T n i
  | 0, _ => rfl
  | i + 1, hi => by
    rw [rWg, rWg, nrm_wg hX hD hD' hA T n i (by omega)]
    split
    · rename_i h59
      rw [nrm_wr (rAll_at hA (by omega) h59), nrm_run hX hD hD' i (by omega), ← nrm_wr (rAll_at (by rw [← nrm_all hX hD hD']; exact hA) (by omega) h59)]
    · rfl
theorem nrm_ws (hX : TXOK co len) (hD : DOK d) (hD' : DOK d') (hA : rAll d co len = true) (T : Nat → Int32) (n : Nat) : rWs d co T n len = rWs d' co T n len := by
  rw [rWs, rWs, nrm_wg hX hD hD' hA T n len (Nat.le_refl _), nrm_wr (rAll_end hA rfl), nrm_run hX hD hD' len (Nat.le_refl _), ← nrm_wr (rAll_end (by rw [← nrm_all hX hD hD']; exact hA) rfl)]
theorem rAll_re (hX : TXOK co len) (hD : DOK d) {k : Nat} (hk : k ≤ len) (hA : rAll d co len = true) : rAll (rRun d co k) co len = true := by
  rw [nrm_all hX (rRun_ok hX hD hk) hD]; exact hA
end NRM
