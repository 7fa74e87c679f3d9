/-! rows, nodes as the model tells them -/
def inT (T : Nat → Int32) (n mo : Nat) (b : Bool) : Nat → Int32
  | 0 => nI 0
  | k + 1 => if 1 ≤ k then (if b = true then inT T n mo b k + stp T n mo k else if kp T n mo k = -1 then inT T n mo b k + nI 0 else inT T n mo b k + nI 1) else inT T n mo b k
def inV (T : Nat → Int32) (n mo : Nat) (b : Bool) : Int32 := if b = true then sts T n mo 128 else nI 127 - nI (nds T n mo (-1) 128)
def rowW (T : Nat → Int32) (n mo r w : Nat) : Int32 := if w = 0 then nI (rowS T n mo r) else if w = 1 then nI (rowS T n mo (r + 1)) - nI (rowS T n mo r) else plo T n mo (rowS T n mo r)
def RowI (T : Nat → Int32) (n mo r w x : Nat) (nv : Int32) (f : Nat) (fd : Int32) : Prop := nv = nI (rc T n mo x) - nI 1 ∧ f < 64 ∧ (0 < x → f = rowS T n mo (rc T n mo x - 1)) ∧ fd = if w < 3 ∧ r + 1 < rc T n mo x then rowW T n mo r w else -1
def RWI (T : Nat → Int32) (n mo r w x : Nat) (nv : Int32) (f : Nat) (fd : Int32) : Prop := (x ≤ 64 ∧ RowI T n mo r w x nv f fd) ∨ (x = 65 ∧ nv = nI (rc T n mo 64) ∧ fd = if w < 3 ∧ r < rc T n mo 64 then rowW T n mo r w else -1)
section RW
variable {T : Nat → Int32} {n mo r w x f : Nat} {nv fd : Int32}
theorem inT_1 {b : Bool} {k : Nat} (hk : 1 ≤ k) (h : b = true) : inT T n mo b (k + 1) = inT T n mo b k + stp T n mo k := by rw [inT, if_pos hk, if_pos h]
theorem inT_2 {b : Bool} {k : Nat} (hk : 1 ≤ k) (h : b = false) (h2 : kp T n mo k = -1) : inT T n mo b (k + 1) = inT T n mo b k + nI 0 := by rw [inT, if_pos hk, if_neg (ntb h), if_pos h2]
theorem inT_3 {b : Bool} {k : Nat} (hk : 1 ≤ k) (h : b = false) (h2 : ¬ kp T n mo k = -1) : inT T n mo b (k + 1) = inT T n mo b k + nI 1 := by rw [inT, if_pos hk, if_neg (ntb h), if_neg h2]
theorem inT_t : ∀ k, inT T n mo true k = sts T n mo k
  | 0 => rfl
  | k + 1 => by
    rw [inT, sts, inT_t k]
    split
    · rw [if_pos rfl]
    · rfl
theorem inT_f : ∀ k, k ≤ 128 → nds T n mo (-1) k ≤ k - 1 ∧ inT T n mo false k = nI (k - 1 - nds T n mo (-1) k)
  | 0, _ => ⟨Nat.le_refl _, rfl⟩
  | k + 1, hk => by
    obtain ⟨h1, h2⟩ := inT_f k (by omega)
    by_cases a : 1 ≤ k
    · by_cases b : kp T n mo k = -1
      · rw [inT_2 a rfl b, nds, if_pos ⟨a, b⟩, h2, add0]
        exact ⟨by omega, congrArg nI (by omega)⟩
      · rw [inT_3 a rfl b, nds, if_neg (fun q => b q.2), h2, nI_add]
        exact ⟨by omega, congrArg nI (by omega)⟩
    · rw [inT, if_neg a, nds, if_neg (fun q => a q.1), h2]
      exact ⟨by omega, congrArg nI (by omega)⟩
theorem inT_e {b : Bool} : inT T n mo b 128 = inV T n mo b := by
  cases b with
  | true => rw [inT_t, inV, if_pos rfl]
  | false =>
    obtain ⟨h1, h2⟩ := inT_f (T := T) (n := n) (mo := mo) 128 (Nat.le_refl _)
    rw [h2, inV, if_neg (by decide), pk_sub (by omega)]
theorem ndV_3 {k wj : Nat} (hw : wj ≤ 4) (h0 : ¬ wj = 0) (h4 : ¬ wj = 4) (h1 : ¬ wj = 1) (h2 : ¬ wj = 2) : nI (mdO k) = ndV T n mo k wj := by
  have e : wj = 3 := by omega
  subst e; rfl
theorem rwi_le (h : RWI T n mo r w x nv f fd) (hx : x ≤ 64) : RowI T n mo r w x nv f fd := h.elim (fun q => q.2) (fun q => by omega)
theorem rwi_0 : RWI T n mo r w 0 (-1) 0 (-1) := by
  refine Or.inl ⟨by omega, (show (-1 : Int32) = nI 0 - nI 1 by decide), by decide, fun h => by omega, ?_⟩
  rw [if_neg (fun q => by have := q.2; rw [rc] at this; omega)]
theorem rwi_n (hJ : RowI T n mo r w x nv f fd) (hx : x ≤ 64) (h64 : ¬ x = 64) (h0 : ¬ x = 0) (h : plo T n mo x = plo T n mo (x - 1)) : RWI T n mo r w (x + 1) (nv + nI 0) f fd := by
  have hb : beg T n mo x = false := by simp [beg, h0, h]
  obtain ⟨j1, j2, j3, j4⟩ := hJ
  refine Or.inl ⟨by omega, ?_, j2, fun _ => ?_, ?_⟩
  · rw [add0, rc_n hb]; exact j1
  · rw [rc_n hb]; exact j3 (by omega)
  · rw [rc_n hb]; exact j4
theorem rwi_b {fd' : Int32} (hJ : RowI T n mo r w x nv f fd) (hx : x ≤ 64) (hB : x = 64 ∨ x = 0 ∨ ¬ plo T n mo x = plo T n mo (x - 1)) (hfd : fd' = if w < 3 ∧ r + 1 < rc T n mo x + 1 then rowW T n mo r w else -1) : RWI T n mo r w (x + 1) (nv + nI 1) x fd' := by
  obtain ⟨j1, j2, j3, j4⟩ := hJ
  have e : nI (rc T n mo x) - nI 1 + nI 1 = nI (rc T n mo x) := Int32.sub_add_cancel _ _
  rcases Nat.lt_or_ge x 64 with q | q
  · have hb : beg T n mo x = true := by
      rcases hB with h | h | h
      · omega
      · exact beg_0 h
      · simp [beg, h]
    refine Or.inl ⟨by omega, ?_, q, fun _ => ?_, ?_⟩
    · rw [j1, e, rc_b hb, pk_sub (by omega), Nat.add_sub_cancel]
    · rw [rc_b hb, Nat.add_sub_cancel, rowS_at q hb]
    · rw [rc_b hb]; exact hfd
  · have e64 : x = 64 := by omega
    subst e64
    refine Or.inr ⟨rfl, by rw [j1, e], ?_⟩
    rw [hfd]
    have : (r + 1 < rc T n mo 64 + 1) = (r < rc T n mo 64) := by apply propext; omega
    simp only [this]
theorem rw_eq (hJ : RowI T n mo r w x nv f fd) (hx : x ≤ 64) (hr : r < 2147483648) : nv = nI r ↔ rc T n mo x = r + 1 := by
  rw [hJ.1]
  have := rc_le T n mo x
  rcases Nat.eq_zero_or_pos (rc T n mo x) with q | q
  · rw [q]
    constructor
    · intro h
      have e : nI 0 - nI 1 = (-1 : Int32) := by decide
      rw [e] at h; exact absurd h.symm (nI_ne1 (by omega))
    · intro h; omega
  · rw [pk_sub (by omega), nI_eq (by omega) (by omega)]; omega
theorem rwi_b0 (hJ : RowI T n mo r w x nv f fd) (hx : x ≤ 64) (hr : r < 2147483648) (hB : x = 64 ∨ x = 0 ∨ ¬ plo T n mo x = plo T n mo (x - 1)) (h : ¬ nv = nI r ∨ ¬ w < 3) : RWI T n mo r w (x + 1) (nv + nI 1) x fd := by
  refine rwi_b hJ hx hB ?_
  rw [hJ.2.2.2]
  rcases h with h | h
  · have h2 : ¬ rc T n mo x = r + 1 := fun q => h ((rw_eq hJ hx hr).mpr q)
    have : (r + 1 < rc T n mo x + 1) = (r + 1 < rc T n mo x) := by apply propext; omega
    simp only [this]
  · rw [if_neg (fun q => h q.1), if_neg (fun q => h q.1)]
theorem rw_at (hJ : RowI T n mo r w x nv f fd) (hx : x ≤ 64) (hr : r < 2147483648) (hB : x = 64 ∨ x = 0 ∨ ¬ plo T n mo x = plo T n mo (x - 1)) (h : nv = nI r) : f = rowS T n mo r ∧ x = rowS T n mo (r + 1) := by
  have h2 := (rw_eq hJ hx hr).mp h
  have h0 : 0 < x := by
    rcases Nat.eq_zero_or_pos x with q | q
    · rw [q, rc] at h2; omega
    · exact q
  refine ⟨by rw [hJ.2.2.1 h0, h2, Nat.add_sub_cancel], ?_⟩
  rcases Nat.lt_or_ge x 64 with q | q
  · have hb : beg T n mo x = true := by
      rcases hB with h | h | h
      · omega
      · omega
      · simp [beg, h]
    rw [← h2, rowS_at q hb]
  · rw [← h2, show x = 64 by omega, rowS_end]
theorem rwi_w0 (hJ : RowI T n mo r w x nv f fd) (hx : x ≤ 64) (hr : r < 2147483648) (hB : x = 64 ∨ x = 0 ∨ ¬ plo T n mo x = plo T n mo (x - 1)) (h : nv = nI r) (hw : w = 0) : RWI T n mo r w (x + 1) (nv + nI 1) x (nI f) := by
  refine rwi_b hJ hx hB ?_
  obtain ⟨e1, e2⟩ := rw_at hJ hx hr hB h
  rw [if_pos ⟨by omega, by have := (rw_eq hJ hx hr).mp h; omega⟩, rowW, if_pos hw, e1]
theorem rwi_w1 (hJ : RowI T n mo r w x nv f fd) (hx : x ≤ 64) (hr : r < 2147483648) (hB : x = 64 ∨ x = 0 ∨ ¬ plo T n mo x = plo T n mo (x - 1)) (h : nv = nI r) (hw : w = 1) : RWI T n mo r w (x + 1) (nv + nI 1) x (nI x - nI f) := by
  refine rwi_b hJ hx hB ?_
  obtain ⟨e1, e2⟩ := rw_at hJ hx hr hB h
  rw [if_pos ⟨by omega, by have := (rw_eq hJ hx hr).mp h; omega⟩, rowW, if_neg (by omega), if_pos hw, ← e1, ← e2]
theorem rwi_w2 (hJ : RowI T n mo r w x nv f fd) (hx : x ≤ 64) (hr : r < 2147483648) (hB : x = 64 ∨ x = 0 ∨ ¬ plo T n mo x = plo T n mo (x - 1)) (h : nv = nI r) (hw : ¬ w = 0) (hw1 : ¬ w = 1) (hw3 : w < 3) : RWI T n mo r w (x + 1) (nv + nI 1) x (plo T n mo f) := by
  refine rwi_b hJ hx hB ?_
  obtain ⟨e1, e2⟩ := rw_at hJ hx hr hB h
  rw [if_pos ⟨by omega, by have := (rw_eq hJ hx hr).mp h; omega⟩, rowW, if_neg hw, if_neg hw1, ← e1]
def ofR (T : Nat → Int32) (n mo r w : Nat) : Int32 := if w = 3 then nI (rc T n mo 64) else rowV T n mo r w
theorem rwi_e3 (h : RWI T n mo r w x nv f fd) (hx : ¬ x ≤ 64) (hw : w = 3) : nv = ofR T n mo r w := by
  rcases h with h | h
  · omega
  · rw [ofR, if_pos hw]; exact h.2.1
theorem rwi_e (h : RWI T n mo r w x nv f fd) (hx : ¬ x ≤ 64) (hw : ¬ w = 3) (hw2 : w ≤ 3) : fd = ofR T n mo r w := by
  rcases h with h | h
  · omega
  · rw [ofR, if_neg hw, h.2.2, rowV]
    by_cases q : r < rc T n mo 64
    · rw [if_pos ⟨by omega, q⟩, if_pos q]; rfl
    · rw [if_neg (fun q2 => q q2.2), if_neg q]
theorem inB_nat {x : Int32} {a b : Nat} (ha : a < 2 ^ 31) (hb : b < 2 ^ 31) (h : inB x (nI a) (nI b) = true) : ∃ j, a ≤ j ∧ j ≤ b ∧ x = nI j := by
  simp only [inB, Bool.and_eq_true, Bool.not_eq_true', decide_eq_false_iff_not] at h
  have h0 : ¬ x < 0 := fun q => h.1 (by
    have := nI_pos' ha
    rw [Int32.lt_iff_toInt_lt] at q ⊢
    rw [Int32.le_iff_toInt_le] at this
    omega)
  obtain ⟨j, hj, rfl⟩ := nI_of h0
  refine ⟨j, Nat.le_of_not_lt (fun q => h.1 ((nI_ltI hj ha).mpr q)), Nat.le_of_not_lt (fun q => h.2 ((nI_ltI hb hj).mpr q)), rfl⟩
theorem inB_lt {x : Int32} {a b : Int32} : inB x a b = false ↔ x < a ∨ ¬ x ≤ b := by
  simp only [inB, Bool.and_eq_false_iff, Bool.not_eq_false', decide_eq_true_eq, Int32.not_le]
theorem inB_ge {x : Int32} {a b : Int32} : inB x a b = true ↔ ¬ x < a ∧ x ≤ b := by
  simp only [inB, Bool.and_eq_true, Bool.not_eq_true', decide_eq_false_iff_not, Int32.not_lt]
theorem xNode_a {k wh : Int32} (h : inB k (nI 1) (nI 127) = false) : xNode k wh = 1 := by
  rcases inB_lt.mp h with q | q
  · rw [xNode, if_pos q]
  · rw [xNode, if_pos q]; split <;> rfl
theorem wh_f {wh : Int32} {b : Nat} {u v : Nat} (h : inB wh (nI 0) (nI b) = false) : (if wh < 0 then u else if wh ≤ nI b then v else u) = u := by
  rcases inB_lt.mp h with q | q
  · exact if_pos q
  · rw [if_neg q]; split <;> rfl
theorem wh_t {wh : Int32} {b : Nat} {u v : Nat} (h : inB wh (nI 0) (nI b) = true) : (if wh < 0 then u else if wh ≤ nI b then v else u) = v := by
  obtain ⟨h1, h2⟩ := inB_ge.mp h
  rw [if_neg (show ¬ wh < 0 from h1), if_pos h2]
theorem xNode_b {k wh : Int32} (h : inB k (nI 1) (nI 127) = true) (h2 : inB wh (nI 0) (nI 4) = false) : xNode k wh = 2 := by
  obtain ⟨q1, q2⟩ := inB_ge.mp h
  rw [xNode, if_neg q1, if_neg (fun q => q q2)]; exact wh_f h2
theorem xNode_c {k wh : Int32} (h : inB k (nI 1) (nI 127) = true) (h2 : inB wh (nI 0) (nI 4) = true) : xNode k wh = 0 := by
  obtain ⟨q1, q2⟩ := inB_ge.mp h
  rw [xNode, if_neg q1, if_neg (fun q => q q2)]; exact wh_t h2
theorem xRow_b {ro wh : Int32} (h2 : inB wh (nI 0) (nI 2) = false) : xRow ro wh = 1 := by
  rw [xRow, wh_f h2]; split <;> rfl
theorem xRow_c {ro wh : Int32} (h : ¬ ro < 0) (h2 : inB wh (nI 0) (nI 2) = true) : xRow ro wh = 0 := by
  rw [xRow, if_neg h]; exact wh_t h2
theorem xLine_b {line wh : Int32} (h : hasB n line = true) (h2 : inB wh (nI 0) (nI 8) = false) : xLine n line wh = 2 := by
  rw [xLine, if_neg (by rw [h]; decide)]; exact wh_f h2
theorem xLine_c {line wh : Int32} (h : hasB n line = true) (h2 : inB wh (nI 0) (nI 8) = true) : xLine n line wh = 0 := by
  rw [xLine, if_neg (by rw [h]; decide)]; exact wh_t h2
theorem xCnt_b {wh : Int32} (h : inB wh (nI 0) (nI 8) = false) : xCnt wh = 1 := by
  rw [xCnt, if_pos]
  rcases i32_upto wh 8 (by decide) with ⟨j, hj, rfl⟩ | q
  · rw [inB_t hj (by decide)] at h; cases h
  · exact q
theorem xCnt_c {wh : Int32} (h : inB wh (nI 0) (nI 8) = true) : xCnt wh = 0 := by
  obtain ⟨j, -, hj, rfl⟩ := inB_nat (by decide) (by decide) h
  rw [xCnt, if_neg]
  rw [nI_toInt (by omega)]; omega
end RW
