/-! a whole text through the reader -/
def cN (co : Nat → Int32) (i : Nat) : Nat := (co i).toNatClampNeg
def TXOK (co : Nat → Int32) (len : Nat) : Prop := len ≤ 60 ∧ ∀ i, i < len → ∃ c : Nat, 33 ≤ c ∧ c ≤ 126 ∧ co i = nI c
def DOK (d : DT) : Prop := d.1 ≤ 9 ∧ d.2.1 ≤ 9999 ∧ d.2.2.2.2.2 ≤ 9999
def rRun (d : DT) (co : Nat → Int32) : Nat → DT
  | 0 => rStart d
  | i + 1 => (rTakes (rRun d co i) (cN co i)).2
def rErr (d : DT) (co : Nat → Int32) (len : Nat) : Nat := fst0 (fun i => !(rTakes (rRun d co i) (cN co i)).1) len
def rAll (d : DT) (co : Nat → Int32) (len : Nat) : Bool := decide (rErr d co len = len) && rWhole (rRun d co (min (rErr d co len + 1) len))
def sc (co : Nat → Int32) : Nat → Nat
  | 0 => 0
  | i + 1 => sc co i + if cN co i = 59 then 1 else 0
def rWr (d : DT) (T : Nat → Int32) (n : Nat) : Nat → Int32 := if d.1 = 5 then pAdd T n d.2.2.2.1 (rSigned d) (nI 0) (nI 99) else pAdd T n d.2.2.2.1 d.2.2.2.2.1 (nI d.2.2.2.2.2) (nI d.2.1)
def rWg (d : DT) (co : Nat → Int32) (T : Nat → Int32) (n : Nat) : Nat → Nat → Int32
  | 0 => T
  | i + 1 => if cN co i = 59 then rWr (rRun d co i) (rWg d co T n i) (n + sc co i) else rWg d co T n i
def rWs (d : DT) (co : Nat → Int32) (T : Nat → Int32) (n len : Nat) : Nat → Int32 := rWr (rRun d co len) (rWg d co T n len) (n + sc co len)
section TX2
variable {co : Nat → Int32} {len i : Nat} {d : DT} {T : Nat → Int32} {n mo ver : Nat}
theorem cN_lt (co : Nat → Int32) (i : Nat) : cN co i < 2147483648 := by
  have := (co i).toInt_lt
  unfold cN Int32.toNatClampNeg
  omega
theorem cN_of (hX : TXOK co len) (hi : i < len) : co i = nI (cN co i) := by
  obtain ⟨c, h1, h2, h3⟩ := hX.2 i hi
  rw [cN, h3, nI_clamp (by omega)]
theorem cN_rng (hX : TXOK co len) (hi : i < len) : 33 ≤ cN co i ∧ cN co i ≤ 126 := by
  obtain ⟨c, h1, h2, h3⟩ := hX.2 i hi
  rw [cN, h3, nI_clamp (by omega)]; exact ⟨h1, h2⟩
theorem cN_le (hX : TXOK co len) (hi : i < len) : cN co i ≤ 127 := by have := cN_rng hX hi; omega
theorem rStart_ok (h : DOK d) : DOK (rStart d) := ⟨Nat.zero_le _, h.2.1, h.2.2⟩
theorem rTakes_ok {x : Nat} (hx : x ≤ 127) (h : DOK d) : DOK (rTakes d x).2 := by
  obtain ⟨h1, h2, h3⟩ := h
  have hs : ∀ k, k ≤ 9 → DOK (rStartsNumber d x k).2 := fun k hk => by
    refine ⟨?_, rStarts_rng d x k h2 h3 hx⟩
    unfold rStartsNumber; split
    · exact hk
    · exact h1
  have he : ∀ k, k ≤ 9999 → DOK (rExtends d x k).2 := fun k hk => by
    refine ⟨?_, rExtends_rng d x k h2 h3 hk⟩
    unfold rExtends; split
    · exact h1
    · exact h1
  have hn : ∀ k, k ≤ 9 → DOK (rNeg d k) := fun k hk => ⟨hk, h2, h3⟩
  have h0 : DOK (rStart d) := ⟨Nat.zero_le _, h2, h3⟩
  unfold rTakes
  repeat' split
  all_goals first
    | exact hs _ (by decide)
    | exact he _ (by decide)
    | exact hn _ (by decide)
    | exact ⟨(by decide : (3 : Nat) ≤ 9), h2, h3⟩
    | exact ⟨(by decide : (8 : Nat) ≤ 9), h2, h2⟩
    | (unfold rSign; repeat' split
       all_goals first | exact hn _ (by decide) | exact ⟨(by decide : (4 : Nat) ≤ 9), h2, h3⟩ | exact ⟨h1, h2, h3⟩)
    | (unfold rOff; repeat' split
       all_goals first | exact h0 | exact ⟨(by decide : (6 : Nat) ≤ 9), h2, h3⟩ | exact he _ (by decide))
    | (unfold rLast; repeat' split
       all_goals first | exact h0 | exact ⟨h1, h2, h3⟩ | exact he _ (by decide))
theorem rRun_ok (hX : TXOK co len) (hD : DOK d) : ∀ {i : Nat}, i ≤ len → DOK (rRun d co i)
  | 0, _ => rStart_ok hD
  | i + 1, h => rTakes_ok (cN_le hX h) (rRun_ok hX hD (Nat.le_of_lt h))
theorem rErr_le (d : DT) (co : Nat → Int32) (len : Nat) : rErr d co len ≤ len := fst0_le _ _
theorem rErr_a (hi : i < len) (hg : ∀ j, j < i → (rTakes (rRun d co j) (cN co j)).1 = true) (h : (rTakes (rRun d co i) (cN co i)).1 = false) : rErr d co len = i := fst0_is hi (by simp [h]) (fun j hj => by simp [hg j hj])
theorem rErr_b (hi : i ≤ len) (hg : ∀ j, j < i → (rTakes (rRun d co j) (cN co j)).1 = true) (h : len ≤ i) : rErr d co len = len := fst0_end (fun j hj => by simp [hg j (by omega)])
theorem rEnd_a (hi : i < len) (hg : ∀ j, j < i → (rTakes (rRun d co j) (cN co j)).1 = true) (h : (rTakes (rRun d co i) (cN co i)).1 = false) : (rTakes (rRun d co i) (cN co i)).2 = rRun d co (min (rErr d co len + 1) len) := by
  rw [rErr_a hi hg h, Nat.min_eq_left (by omega)]; rfl
theorem rEnd_b (hi : i ≤ len) (hg : ∀ j, j < i → (rTakes (rRun d co j) (cN co j)).1 = true) (h : len ≤ i) : rRun d co i = rRun d co (min (rErr d co len + 1) len) := by
  rw [rErr_b hi hg h, Nat.min_eq_right (by omega), show i = len by omega]
theorem rAll_1 (h : rErr d co len = len) (h2 : rWhole (rRun d co (min (rErr d co len + 1) len)) = true) : nI 1 = bI (rAll d co len) := by rw [rAll, h2, h]; simp [bI]; rfl
theorem rAll_2 (h : ¬ rErr d co len = len) : nI 0 = bI (rAll d co len) := by simp [rAll, bI, h]; rfl
theorem rAll_3 (h2 : rWhole (rRun d co (min (rErr d co len + 1) len)) = false) : nI 0 = bI (rAll d co len) := by rw [rAll, h2]; simp [bI]; rfl
theorem rAll_run (h : rAll d co len = true) : (∀ j, j < len → (rTakes (rRun d co j) (cN co j)).1 = true) ∧ rWhole (rRun d co len) = true := by
  simp only [rAll, Bool.and_eq_true, decide_eq_true_eq] at h
  obtain ⟨h1, h2⟩ := h
  refine ⟨fun j hj => ?_, ?_⟩
  · have := fst0_no (fun i => !(rTakes (rRun d co i) (cN co i)).1) len j (by show j < rErr d co len; omega)
    simpa using this
  · rw [h1, Nat.min_eq_right (by omega)] at h2; exact h2
theorem rWhole_st (h : rWhole d = true) : d.1 = 5 ∨ d.1 = 9 := by
  simp only [rWhole, Bool.or_eq_true, Bool.and_eq_true, decide_eq_true_eq] at h
  rcases h with h | ⟨h, -⟩
  · exact Or.inl h
  · exact Or.inr h
theorem rTakes_59 (h : (rTakes d 59).1 = true) : d.1 = 5 ∨ rWhole d = true ∧ d.1 = 9 := by
  have hd : dg 59 = false := by decide
  unfold rTakes at h
  repeat' split at h
  all_goals first
    | (exact Or.inl (by assumption))
    | (simp [rStartsNumber, hd] at h; done)
    | (simp [rExtends, hd] at h; done)
    | (simp [rSign] at h; done)
    | contradiction
    | (rename_i n0 n1 n2 n3 n4 n5 n6 n7 n8
       simp only [rLast, if_true] at h
       split at h
       · rename_i hw
         rcases rWhole_st hw with q | q
         · exact Or.inl q
         · exact Or.inr ⟨hw, q⟩
       · cases h)
theorem rAll_at (h : rAll d co len = true) (hi : i < len) (h59 : cN co i = 59) : (rRun d co i).1 = 5 ∨ (rRun d co i).1 = 9 := by
  have := (rAll_run h).1 i hi
  rw [h59] at this
  rcases rTakes_59 this with q | ⟨-, q⟩
  · exact Or.inl q
  · exact Or.inr q
theorem rAll_end (h : rAll d co len = true) (hi : i = len) : (rRun d co i).1 = 5 ∨ (rRun d co i).1 = 9 := by
  rw [hi]; exact rWhole_st (rAll_run h).2
theorem sc_le (co : Nat → Int32) {i : Nat} : ∀ {len : Nat}, i ≤ len → sc co i ≤ sc co len
  | 0, h => by rw [show i = 0 by omega]; exact Nat.le_refl _
  | len + 1, h => by
    rcases Nat.lt_or_ge len i with q | q
    · rw [show i = len + 1 by omega]; exact Nat.le_refl _
    · have := sc_le co q
      show _ ≤ sc co len + _
      omega
theorem rWg_1 (h : cN co i = 59) : (rWr (rRun d co i) (rWg d co T n i) (n + sc co i), n + sc co i + 1, mo, ver + 6 * sc co i + 6) = (rWg d co T n (i + 1), n + sc co (i + 1), mo, ver + 6 * sc co (i + 1)) := by
  rw [show sc co (i + 1) = sc co i + 1 by rw [sc, if_pos h], show rWg d co T n (i + 1) = rWr (rRun d co i) (rWg d co T n i) (n + sc co i) by rw [rWg, if_pos h]]
  simp; omega
theorem rWg_0 (h : ¬ cN co i = 59) : (rWg d co T n i, n + sc co i, mo, ver + 6 * sc co i) = (rWg d co T n (i + 1), n + sc co (i + 1), mo, ver + 6 * sc co (i + 1)) := by
  rw [show sc co (i + 1) = sc co i by rw [sc, if_neg h]; rfl, show rWg d co T n (i + 1) = rWg d co T n i by rw [rWg, if_neg h]]
theorem rWs_end (h : i = len) : (rWr (rRun d co i) (rWg d co T n i) (n + sc co i), n + sc co i + 1, mo, ver + 6 * sc co i + 6) = (rWs d co T n len, n + (sc co len + 1), mo, ver + 6 * (sc co len + 1)) := by
  rw [h, rWs]; simp; omega
end TX2
