/-! the model's way through a text, held against the class's reader -/
def okR (d : DT) (co : Nat → Int32) (j : Nat) : Bool := (rTakes (rRun d co j) (cN co j)).1
def RS (d : DT) (co : Nat → Int32) (len s i : Nat) (e : DT) : Prop := i ≤ len ∧ (∀ j, j < i → okR d co j = true) ∧ (∀ j, s ≤ j → j < i → cN co j ≠ 59) ∧ rRun d co i = e
def FE (d : DT) (co : Nat → Int32) (len i : Nat) : Prop := i ≤ len ∧ (∀ j, j < i → okR d co j = true) ∧ (i < len → okR d co i = false) ∧ (i = len → rWhole (rRun d co len) = false)
def rSg (m : Bool) (v : Nat) : Int32 := if m = true then -nI v else nI v
section TXE
variable {d e e' : DT} {co : Nat → Int32} {len s i : Nat} {nu fi vl tn v K : Nat} {sl off : Int32} {ft m : Bool} {td : Nat → Int32}
theorem RS.step (h : RS d co len s i e) (hi : i < len) (ht : rTakes e (cN co i) = (true, e')) (h59 : cN co i ≠ 59) : RS d co len s (i + 1) e' := by
  obtain ⟨h1, h2, h3, h4⟩ := h
  refine ⟨hi, fun j hj => ?_, fun j hs hj => ?_, ?_⟩
  · rcases Nat.lt_or_ge j i with q | q
    · exact h2 j q
    · rw [show j = i by omega, okR, h4, ht]
  · rcases Nat.lt_or_ge j i with q | q
    · exact h3 j hs q
    · rw [show j = i by omega]; exact h59
  · rw [rRun, h4, ht]
theorem RS.fail (h : RS d co len s i e) (hw : rWhole e = false) (hf : i < len → (rTakes e (cN co i)).1 = false) : FE d co len i := by
  obtain ⟨h1, h2, h3, h4⟩ := h
  exact ⟨h1, h2, fun q => by rw [okR, h4]; exact hf q, fun q => by rw [← q, h4]; exact hw⟩
theorem atB_i {a : Nat} (h : atB co len i a a = true) : i < len ∧ cN co i = a := by
  obtain ⟨h1, h2, h3⟩ := atB_c h
  exact ⟨h1, by omega⟩
theorem atB_n {a : Nat} (h : atB co len i a a = false) (hi : i < len) : cN co i ≠ a := fun q => by
  have : atB co len i a a = true := by simp [atB, inN, hi, q]
  rw [this] at h; cases h
theorem atB_d (h : atB co len i 48 57 = true) : i < len ∧ dg (cN co i) = true ∧ 48 ≤ cN co i ∧ cN co i ≤ 57 := by
  obtain ⟨h1, h2, h3⟩ := atB_c h
  exact ⟨h1, by simp [dg, h2, h3], h2, h3⟩
theorem atB_e (h : atB co len i 48 57 = false) (hi : i < len) : dg (cN co i) = false := by
  cases hd : dg (cN co i)
  · rfl
  · have : atB co len i 48 57 = true := by
      have h1 := dg_le hd
      have h2 := dg_le2 hd
      simp [atB, inN, hi, h1, h2]
    rw [this] at h; cases h
theorem tk_0 (hx : i < len → cN co i ≠ 45) : i < len → rTakes (0, nu, m, sl, off, fi) (cN co i) = rStartsNumber (0, nu, m, sl, off, fi) (cN co i) 2 := fun hi => by simp [rTakes, hx hi]
theorem tk_1 : i < len → rTakes (1, nu, m, sl, off, fi) (cN co i) = rStartsNumber (1, nu, m, sl, off, fi) (cN co i) 2 := fun _ => by simp [rTakes]
theorem tk_6 : i < len → rTakes (6, nu, m, sl, off, fi) (cN co i) = rStartsNumber (6, nu, m, sl, off, fi) (cN co i) 7 := fun _ => by simp [rTakes]
theorem dg_ne {x y : Nat} (h : dg x = true) (hy : y < 48 ∨ 57 < y) : x ≠ y := by
  have := dg_le h; have := dg_le2 h; omega
theorem tk_2 (v x : Nat) (hx : dg x = true) : rTakes (2, v, m, sl, off, fi) x = rExtends (2, v, m, sl, off, fi) x 99 := by
  have : x ≠ 120 := dg_ne hx (by decide)
  simp [rTakes, this]
theorem tk_7 (v x : Nat) (hx : dg x = true) : rTakes (7, v, m, sl, off, fi) x = rExtends (7, v, m, sl, off, fi) x 99 := by
  have : x ≠ 45 := dg_ne hx (by decide)
  simp [rTakes, this]
theorem tq_minus (h : RS d co len s i (0, nu, false, sl, off, fi)) : (atB co len i 45 45 = true ∧ mnQ co len (i, ft, vl, td, tn) = (i + 1, ft, vl, td, tn) ∧ RS d co len s (i + 1) (1, nu, true, sl, off, fi)) ∨ (atB co len i 45 45 = false ∧ mnQ co len (i, ft, vl, td, tn) = (i, ft, vl, td, tn) ∧ (i < len → cN co i ≠ 45)) := by
  cases hb : atB co len i 45 45
  · exact Or.inr ⟨rfl, by simp [mnQ, hb], atB_n hb⟩
  · obtain ⟨hi, hx⟩ := atB_i hb
    exact Or.inl ⟨rfl, by simp [mnQ, hb], h.step hi (by rw [hx]; rfl) (by omega)⟩
theorem ext_t {k x w : Nat} (hx : dg x = true) (h0 : v ≠ 0) (hk : v * 10 + x - 48 ≤ k) (hw : w = v * 10 + x - 48) : rExtends (K, v, m, sl, off, fi) x k = (true, (K, w, m, sl, off, fi)) := by
  rw [hw, rExtends, if_pos ⟨hx, h0, hk⟩]
theorem ext_f {k x : Nat} (h : dg x = true → v = 0 ∨ k < v * 10 + x - 48) : (rExtends (K, v, m, sl, off, fi) x k).1 = false := by
  rw [rExtends, if_neg]
  rintro ⟨h1, h2, h3⟩
  have h2 : v ≠ 0 := h2
  have h3 : v * 10 + x - 48 ≤ k := h3
  rcases h h1 with q | q
  · exact h2 q
  · omega
theorem st_t {x k : Nat} (hx : dg x = true) : rStartsNumber e x k = (true, (k, x - 48, e.2.2)) := by rw [rStartsNumber, if_pos hx]
theorem st_f {x k : Nat} (hx : dg x = false) : (rStartsNumber e x k).1 = false := by rw [rStartsNumber, if_neg (by rw [hx]; decide)]
def STP (co : Nat → Int32) (len i v w : Nat) : Prop := i < len → dg (cN co i) = true → v = 0 ∨ w ≤ v
theorem tq_small {k0 : Nat} (h : RS d co len s i (k0, nu, m, sl, off, fi)) (hw : rWhole (k0, nu, m, sl, off, fi) = false) (hs : i < len → rTakes (k0, nu, m, sl, off, fi) (cN co i) = rStartsNumber (k0, nu, m, sl, off, fi) (cN co i) K) (hk : ∀ v x, dg x = true → rTakes (K, v, m, sl, off, fi) x = rExtends (K, v, m, sl, off, fi) x 99) :
    (smB co len 0 99 i = true ∧ ∃ i' v, smQ co len 0 99 (i, ft, vl, td, tn) = (i', ft, v, td, tn) ∧ i < i' ∧ v ≤ 99 ∧ RS d co len s i' (K, v, m, sl, off, fi) ∧ STP co len i' v 10) ∨ (smB co len 0 99 i = false ∧ ∃ v', smQ co len 0 99 (i, ft, vl, td, tn) = (i, decide (i < len), v', td, tn) ∧ FE d co len i) := by
  cases hA : atB co len i 48 57
  · have hF : smF co len 0 99 i = false := smF_1 hA
    refine Or.inr ⟨by rw [smB, hF]; rfl, vl, (smQ_1 hF).symm, h.fail hw (fun hi => ?_)⟩
    rw [hs hi]; exact st_f (atB_e hA hi)
  · obtain ⟨hi, hdg, h1, h2⟩ := atB_d hA
    have hF : smF co len 0 99 i = true := smF_t hA (by have : cN co i - 48 ≤ 99 := by omega
                                                       simp [bgB, inN, this])
    have hR1 : RS d co len s (i + 1) (K, cN co i - 48, m, sl, off, fi) := h.step hi (by rw [hs hi, st_t hdg]) (by omega)
    refine Or.inl ?_
    cases hG : smG co len 0 99 i
    · have hin : inN (cN co i - 48) 0 99 = true := by
        have : cN co i - 48 ≤ 99 := by omega
        simp [inN, this]
      refine ⟨by rw [smB, hF, hin, Bool.or_true]; rfl, i + 1, cN co i - 48, (smQ_3 hF hG hin).symm, by omega, by omega, hR1, fun hl hd => ?_⟩
      have d1 := dg_le hd
      have d2 := dg_le2 hd
      rcases Nat.eq_zero_or_pos (cN co i - 48) with q | q
      · exact Or.inl q
      · have a1 : atB co len (i + 1) 48 57 = true := by simp [atB, inN, hl, d1, d2]
        have a2 : inN (10 * (cN co i - 48) + cN co (i + 1) - 48) 0 99 = true := by
          have : 10 * (cN co i - 48) + cN co (i + 1) - 48 ≤ 99 := by omega
          simp [inN, this]
        rw [smG_t q a1 a2] at hG; cases hG
    · have hG' := hG
      simp only [smG, Bool.and_eq_true, decide_eq_true_eq] at hG'
      obtain ⟨g1, g2, g3⟩ := hG'
      obtain ⟨hi2, hdg2, k1, k2⟩ := atB_d g2
      refine ⟨by rw [smB, hF, hG]; rfl, i + 1 + 1, 10 * (cN co i - 48) + cN co (i + 1) - 48, (smQ_2 hF hG).symm, by omega, by omega, hR1.step hi2 (by rw [hk _ _ hdg2]; exact ext_t hdg2 (by omega) (by omega) (by omega)) (by omega), fun _ _ => Or.inr (by omega)⟩
theorem tq_x (h : RS d co len s i (2, v, m, sl, off, fi)) (hs : STP co len i v 10) : (atB co len i 120 120 = true ∧ sgQ co len 120 (i, ft, vl, td, tn) = (i + 1, ft, vl, td, tn) ∧ RS d co len s (i + 1) (3, v, false, rSg m v, off, fi)) ∨ (atB co len i 120 120 = false ∧ sgQ co len 120 (i, ft, vl, td, tn) = (i, decide (i < len), vl, td, tn) ∧ FE d co len i) := by
  cases hb : atB co len i 120 120
  · refine Or.inr ⟨rfl, by simp [sgQ, hb, stQ], h.fail rfl (fun hi => ?_)⟩
    have hx := atB_n hb hi
    have e1 : rTakes (2, v, m, sl, off, fi) (cN co i) = rExtends (2, v, m, sl, off, fi) (cN co i) 99 := by simp [rTakes, hx]
    rw [e1]
    refine ext_f (fun hd => ?_)
    have := dg_le hd
    rcases hs hi hd with q | q
    · exact Or.inl q
    · exact Or.inr (by omega)
  · obtain ⟨hi, hx⟩ := atB_i hb
    exact Or.inl ⟨rfl, by simp [sgQ, hb], h.step hi (by rw [hx]; rfl) (by omega)⟩
theorem tq_dash (h : RS d co len s i (7, v, m, sl, off, fi)) (hs : STP co len i v 10) : (atB co len i 45 45 = true ∧ sgQ co len 45 (i, ft, vl, td, tn) = (i + 1, ft, vl, td, tn) ∧ RS d co len s (i + 1) (8, v, m, sl, off, v)) ∨ (atB co len i 45 45 = false ∧ sgQ co len 45 (i, ft, vl, td, tn) = (i, decide (i < len), vl, td, tn) ∧ FE d co len i) := by
  cases hb : atB co len i 45 45
  · refine Or.inr ⟨rfl, by simp [sgQ, hb, stQ], h.fail rfl (fun hi => ?_)⟩
    have hx := atB_n hb hi
    have e1 : rTakes (7, v, m, sl, off, fi) (cN co i) = rExtends (7, v, m, sl, off, fi) (cN co i) 99 := by simp [rTakes, hx]
    rw [e1]
    refine ext_f (fun hd => ?_)
    have := dg_le hd
    rcases hs hi hd with q | q
    · exact Or.inl q
    · exact Or.inr (by omega)
  · obtain ⟨hi, hx⟩ := atB_i hb
    exact Or.inl ⟨rfl, by simp [sgQ, hb], h.step hi (by rw [hx]; rfl) (by omega)⟩
theorem tq_sign (h : RS d co len s i (3, v, false, sl, off, fi)) : (atB co len i 45 45 = true ∧ RS d co len s (i + 1) (4, v, true, sl, off, fi)) ∨ (atB co len i 45 45 = false ∧ (i < len → cN co i ≠ 45)) := by
  cases hb : atB co len i 45 45
  · exact Or.inr ⟨rfl, atB_n hb⟩
  · obtain ⟨hi, hx⟩ := atB_i hb
    exact Or.inl ⟨rfl, h.step hi (by rw [hx]; rfl) (by omega)⟩
theorem tq_plus (h : RS d co len s i (3, v, false, sl, off, fi)) (hn : i < len → cN co i ≠ 45) : (atB co len i 43 43 = true ∧ RS d co len s (i + 1) (4, v, false, sl, off, fi)) ∨ (atB co len i 43 43 = false ∧ FE d co len i) := by
  cases hb : atB co len i 43 43
  · refine Or.inr ⟨rfl, h.fail rfl (fun hi => ?_)⟩
    have h1 := atB_n hb hi
    have h2 := hn hi
    simp [rTakes, rSign, h1, h2]
  · obtain ⟨hi, hx⟩ := atB_i hb
    exact Or.inl ⟨rfl, h.step hi (by rw [hx]; rfl) (by omega)⟩
theorem gr_run : ∀ (f v i : Nat), RS d co len s i (5, v, m, sl, off, fi) → (v = 0 ∨ 1000 ≤ v * 10 ^ f) → v ≤ 9999 → RS d co len s (grL co len f v i).1 (5, (grL co len f v i).2, m, sl, off, fi) ∧ i ≤ (grL co len f v i).1 ∧ (grL co len f v i).2 ≤ 9999 ∧ STP co len (grL co len f v i).1 (grL co len f v i).2 1000
  | 0, v, i, h, hf, hv => ⟨h, Nat.le_refl _, hv, fun _ _ => by rw [Nat.pow_zero, Nat.mul_one] at hf; exact hf⟩
  | f + 1, v, i, h, hf, hv => by
    by_cases q : 0 < v ∧ v < 1000 ∧ atB co len i 48 57 = true
    · rw [grL, if_pos q]
      obtain ⟨q1, q2, q3⟩ := q
      obtain ⟨hi, hdg, h1, h2⟩ := atB_d q3
      have hx1 : cN co i ≠ 59 := by omega
      have hx2 : cN co i ≠ 64 := by omega
      have e1 : rTakes (5, v, m, sl, off, fi) (cN co i) = rExtends (5, v, m, sl, off, fi) (cN co i) 9999 := by simp [rTakes, rOff, hx1, hx2]
      have hR := h.step (e' := (5, 10 * v + cN co i - 48, m, sl, off, fi)) hi (by rw [e1]; exact ext_t hdg (by omega) (by omega) (by omega)) hx1
      obtain ⟨g1, g2, g3, g4⟩ := gr_run f (10 * v + cN co i - 48) (i + 1) hR (gtx_n hf q1 h1) (by omega)
      exact ⟨g1, by omega, g3, g4⟩
    · rw [grL, if_neg q]
      refine ⟨h, Nat.le_refl _, hv, fun hi hd => ?_⟩
      have d1 := dg_le hd
      have d2 := dg_le2 hd
      have a1 : atB co len i 48 57 = true := by
        have hi : i < len := hi
        have d1 : 48 ≤ cN co i := d1
        have d2 : cN co i ≤ 57 := d2
        simp [atB, inN, hi, d1, d2]
      show v = 0 ∨ 1000 ≤ v
      by_cases z : v = 0
      · exact Or.inl z
      · right
        rcases Nat.lt_or_ge v 1000 with y | y
        · exact absurd ⟨by omega, y, a1⟩ q
        · exact y
theorem tq_great (h : RS d co len s i (4, nu, m, sl, off, fi)) : (atB co len i 48 57 = true ∧ ∃ i' v, grQ co len (i, ft, vl, td, tn) = (i', ft, v, td, tn) ∧ i < i' ∧ v ≤ 9999 ∧ RS d co len s i' (5, v, m, sl, off, fi) ∧ STP co len i' v 1000) ∨ (atB co len i 48 57 = false ∧ grQ co len (i, ft, vl, td, tn) = (i, decide (i < len), vl, td, tn) ∧ FE d co len i) := by
  cases hb : atB co len i 48 57
  · refine Or.inr ⟨rfl, (grQ_0 hb).symm, h.fail rfl (fun hi => ?_)⟩
    have e1 : rTakes (4, nu, m, sl, off, fi) (cN co i) = rStartsNumber (4, nu, m, sl, off, fi) (cN co i) 5 := by simp [rTakes]
    rw [e1]; exact st_f (atB_e hb hi)
  · obtain ⟨hi, hdg, h1, h2⟩ := atB_d hb
    have e1 : rTakes (4, nu, m, sl, off, fi) (cN co i) = rStartsNumber (4, nu, m, sl, off, fi) (cN co i) 5 := by simp [rTakes]
    have hR := h.step (e' := (5, cN co i - 48, m, sl, off, fi)) hi (by rw [e1, st_t hdg]) (by omega)
    obtain ⟨g1, g2, g3, g4⟩ := gr_run 4 (cN co i - 48) (i + 1) hR (gtx_4 _) (by omega)
    exact Or.inl ⟨rfl, _, _, (grQ_1 hb rfl).symm, Nat.lt_of_lt_of_le (Nat.lt_succ_self i) g2, g3, g1, g4⟩
theorem tq_at (h : RS d co len s i (5, v, m, sl, off, fi)) : (atB co len i 64 64 = true ∧ RS d co len s (i + 1) (6, v, m, sl, rSg m v, fi)) ∨ (atB co len i 64 64 = false ∧ (i < len → cN co i ≠ 64)) := by
  cases hb : atB co len i 64 64
  · exact Or.inr ⟨rfl, atB_n hb⟩
  · obtain ⟨hi, hx⟩ := atB_i hb
    exact Or.inl ⟨rfl, h.step hi (by rw [hx]; rfl) (by omega)⟩
theorem tq_last (h : RS d co len s i (8, nu, m, sl, off, fi)) (hfi : fi ≤ 99) : (smB co len fi 99 i = true ∧ ∃ i' v, smQ co len fi 99 (i, ft, vl, td, tn) = (i', ft, v, td, tn) ∧ i < i' ∧ fi ≤ v ∧ v ≤ 99 ∧ RS d co len s i' (9, v, m, sl, off, fi) ∧ STP co len i' v 10) ∨ (smB co len fi 99 i = false ∧ ∃ i' v', smQ co len fi 99 (i, ft, vl, td, tn) = (i', decide (i' < len), v', td, tn) ∧ FE d co len i') := by
  have e8 : ∀ x, rTakes (8, nu, m, sl, off, fi) x = ((rStartsNumber (8, nu, m, sl, off, fi) x 9).1 && rMay (rStartsNumber (8, nu, m, sl, off, fi) x 9).2, (rStartsNumber (8, nu, m, sl, off, fi) x 9).2) := fun x => by simp [rTakes]
  have e9 : ∀ v x, x ≠ 59 → rTakes (9, v, m, sl, off, fi) x = ((rExtends (9, v, m, sl, off, fi) x 99).1 && rMay (rExtends (9, v, m, sl, off, fi) x 99).2, (rExtends (9, v, m, sl, off, fi) x 99).2) := fun v x hx => by simp [rTakes, rLast, hx]
  cases hA : atB co len i 48 57
  · have hF : smF co len fi 99 i = false := smF_1 hA
    refine Or.inr ⟨by rw [smB, hF]; rfl, i, vl, (smQ_1 hF).symm, h.fail rfl (fun hi => ?_)⟩
    rw [e8]
    show ((rStartsNumber (8, nu, m, sl, off, fi) (cN co i) 9).1 && _) = false
    rw [st_f (atB_e hA hi)]; rfl
  · obtain ⟨hi, hdg, h1, h2⟩ := atB_d hA
    have hm : rMay (9, cN co i - 48, m, sl, off, fi) = bgB (cN co i - 48) fi 99 := by
      show (decide (fi ≤ cN co i - 48) || (decide (0 < cN co i - 48) && (decide (cN co i - 48 < 10) && decide (fi ≤ (cN co i - 48) * 10 + 9)))) = _
      have a1 : cN co i - 48 ≤ 99 := by omega
      have a2 : cN co i - 48 < 10 := by omega
      have a3 : 10 * (cN co i - 48) ≤ 99 := by omega
      rw [bgB, inN, Nat.mul_comm (cN co i - 48) 10]
      simp [a1, a2, a3]
    cases hB : bgB (cN co i - 48) fi 99
    · have hF : smF co len fi 99 i = false := smF_2 hB
      refine Or.inr ⟨by rw [smB, hF]; rfl, i, vl, (smQ_1 hF).symm, h.fail rfl (fun _ => ?_)⟩
      rw [e8, st_t hdg]
      show (true && rMay (9, cN co i - 48, m, sl, off, fi)) = false
      rw [hm, hB]; rfl
    · have hF : smF co len fi 99 i = true := smF_t hA hB
      have hR1 : RS d co len s (i + 1) (9, cN co i - 48, m, sl, off, fi) := h.step hi (by
        rw [e8, st_t hdg]
        show ((true && rMay (9, cN co i - 48, m, sl, off, fi)), (9, cN co i - 48, m, sl, off, fi)) = _
        rw [hm, hB]; rfl) (by omega)
      cases hG : smG co len fi 99 i
      · have hGn : 0 < cN co i - 48 → i + 1 < len → dg (cN co (i + 1)) = true → 10 * (cN co i - 48) + cN co (i + 1) - 48 < fi := fun q hl hd => by
          have d1 := dg_le hd
          have d2 := dg_le2 hd
          have a1 : atB co len (i + 1) 48 57 = true := by simp [atB, inN, hl, d1, d2]
          rcases Nat.lt_or_ge (10 * (cN co i - 48) + cN co (i + 1) - 48) fi with z | z
          · exact z
          · have a2 : inN (10 * (cN co i - 48) + cN co (i + 1) - 48) fi 99 = true := by
              have : 10 * (cN co i - 48) + cN co (i + 1) - 48 ≤ 99 := by omega
              simp [inN, this, z]
            rw [smG_t q a1 a2] at hG; cases hG
        cases hin : inN (cN co i - 48) fi 99
        · have hlt : cN co i - 48 < fi := by
            rcases Nat.lt_or_ge (cN co i - 48) fi with z | z
            · exact z
            · have a1 : cN co i - 48 ≤ 99 := by omega
              have : inN (cN co i - 48) fi 99 = true := by simp [inN, a1, z]
              rw [this] at hin; cases hin
          have hnw : rWhole (9, cN co i - 48, m, sl, off, fi) = false := by
            have : ¬ fi ≤ cN co i - 48 := by omega
            simp [rWhole, this]
          refine Or.inr ⟨by rw [smB, hF, hG, hin]; rfl, i + 1, cN co i - 48, (smQ_4 hF hG hin).symm, hR1.fail hnw (fun hl => ?_)⟩
          by_cases h59 : cN co (i + 1) = 59
          · rw [h59]
            show (rLast (9, cN co i - 48, m, sl, off, fi) 59).1 = false
            rw [rLast, if_pos rfl, if_neg (by rw [hnw]; decide)]
          · rw [e9 _ _ h59]
            show ((rExtends (9, cN co i - 48, m, sl, off, fi) (cN co (i + 1)) 99).1 && rMay (rExtends (9, cN co i - 48, m, sl, off, fi) (cN co (i + 1)) 99).2) = false
            by_cases q : dg (cN co (i + 1)) = true ∧ cN co i - 48 ≠ 0
            · have d1 := dg_le q.1
              have d2 := dg_le2 q.1
              have g := hGn (by omega) hl q.1
              rw [ext_t (w := 10 * (cN co i - 48) + cN co (i + 1) - 48) q.1 q.2 (by omega) (by omega)]
              show (true && (decide (fi ≤ 10 * (cN co i - 48) + cN co (i + 1) - 48) || (_ && (decide (10 * (cN co i - 48) + cN co (i + 1) - 48 < 10) && _)))) = false
              have b1 : ¬ fi ≤ 10 * (cN co i - 48) + cN co (i + 1) - 48 := by omega
              have b2 : ¬ 10 * (cN co i - 48) + cN co (i + 1) - 48 < 10 := by omega
              simp [b1, b2]
            · rw [ext_f (fun hd => Or.inl (by
                rcases Nat.eq_zero_or_pos (cN co i - 48) with z | z
                · exact z
                · exact absurd ⟨hd, by omega⟩ q))]
              rfl
        · have hin2 : fi ≤ cN co i - 48 := by
            simp only [inN, Bool.and_eq_true, decide_eq_true_eq] at hin; exact hin.1
          refine Or.inl ⟨by rw [smB, hF, hG, hin]; rfl, i + 1, cN co i - 48, (smQ_3 hF hG hin).symm, by omega, hin2, by omega, hR1, fun hl hd => ?_⟩
          rcases Nat.eq_zero_or_pos (cN co i - 48) with q | q
          · exact Or.inl q
          · have := hGn q hl hd
            have := dg_le hd
            omega
      · have hG' := hG
        simp only [smG, Bool.and_eq_true, decide_eq_true_eq] at hG'
        obtain ⟨g1, g2, g3⟩ := hG'
        obtain ⟨hi2, hdg2, k1, k2⟩ := atB_d g2
        have hin2 : fi ≤ 10 * (cN co i - 48) + cN co (i + 1) - 48 := by
          simp only [inN, Bool.and_eq_true, decide_eq_true_eq] at g3; exact g3.1
        refine Or.inl ⟨by rw [smB, hF, hG]; rfl, i + 1 + 1, 10 * (cN co i - 48) + cN co (i + 1) - 48, (smQ_2 hF hG).symm, by omega, hin2, by omega, hR1.step hi2 (by
          rw [e9 _ _ (by omega), ext_t (w := 10 * (cN co i - 48) + cN co (i + 1) - 48) hdg2 (by omega) (by omega) (by omega)]
          show ((true && (decide (fi ≤ 10 * (cN co i - 48) + cN co (i + 1) - 48) || _)), _) = _
          simp [hin2]) (by omega), fun _ _ => Or.inr (by omega)⟩
end TXE
def PP (d : DT) (co : Nat → Int32) (len s : Nat) (td : Nat → Int32) (tn : Nat) (b : Bool) (i : Nat) (ft : Bool) (td' : Nat → Int32) : Prop :=
  (b = false → FE d co len i ∧ ft = decide (i < len)) ∧ (b = true → s + 4 ≤ i ∧ ∃ e, RS d co len s i e ∧ rWhole e = true ∧ (i < len → cN co i ≠ 59 → (rTakes e (cN co i)).1 = false) ∧ (∀ k, k < 4 * tn → td' k = td k) ∧ ∀ T n, rWr e T n = pAdd T n (td' (4 * tn)) (td' (4 * tn + 1)) (td' (4 * tn + 2)) (td' (4 * tn + 3)))
section TXP
variable {d : DT} {co : Nat → Int32} {len s i : Nat} {nu fi vl tn v v1 : Nat} {sl off of2 : Int32} {ft m : Bool} {td td' : Nat → Int32}
theorem PP_f (h : FE d co len i) : PP d co len s td tn false i (decide (i < len)) td' := ⟨fun _ => ⟨h, rfl⟩, fun q => absurd q (by decide)⟩
theorem PP_1 (hs : s + 4 ≤ i) (h : RS d co len s i (5, v, m, sl, off, fi)) (ht : STP co len i v 1000) (h64 : i < len → cN co i ≠ 64) : PP d co len s td tn true i ft (upd (upd (upd (upd td (4 * tn) sl) ((4 * tn) + 1) (rSg m v)) ((4 * tn) + 2) (nI 0)) ((4 * tn) + 3) (nI 99)) := by
  refine ⟨fun q => absurd q (by decide), fun _ => ⟨hs, _, h, by simp [rWhole], fun hi h59 => ?_, fun k hk => ?_, fun T n => ?_⟩⟩
  · have e1 : rTakes (5, v, m, sl, off, fi) (cN co i) = rExtends (5, v, m, sl, off, fi) (cN co i) 9999 := by simp [rTakes, rOff, h59, h64 hi]
    rw [e1]
    refine ext_f (fun hd => ?_)
    have := dg_le hd
    rcases ht hi hd with q | q
    · exact Or.inl q
    · exact Or.inr (by omega)
  · rw [upd_n (by omega), upd_n (by omega), upd_n (by omega), upd_n (by omega)]
  · rw [upd_s, upd_n (show (4 * tn) + 2 ≠ (4 * tn) + 3 by omega), upd_s, upd_n (show (4 * tn) + 1 ≠ (4 * tn) + 3 by omega), upd_n (show (4 * tn) + 1 ≠ (4 * tn) + 2 by omega), upd_s, upd_n (show (4 * tn) ≠ (4 * tn) + 3 by omega), upd_n (show (4 * tn) ≠ (4 * tn) + 2 by omega), upd_n (show (4 * tn) ≠ (4 * tn) + 1 by omega), upd_s]
    rfl
theorem PP_2 (hs : s + 4 ≤ i) (h : RS d co len s i (9, v, m, sl, of2, v1)) (ht : STP co len i v 10) (hv : v1 ≤ v) {x2 x3 : Int32} : PP d co len s td tn true i ft (upd (upd (upd (upd (upd (upd td (4 * tn) sl) ((4 * tn) + 1) of2) ((4 * tn) + 2) x2) ((4 * tn) + 3) x3) ((4 * tn) + 2) (nI v1)) ((4 * tn) + 3) (nI v)) := by
  have hw : rWhole (9, v, m, sl, of2, v1) = true := by simp [rWhole, hv]
  refine ⟨fun q => absurd q (by decide), fun _ => ⟨hs, _, h, hw, fun hi h59 => ?_, fun k hk => ?_, fun T n => ?_⟩⟩
  · have e1 : rTakes (9, v, m, sl, of2, v1) (cN co i) = ((rExtends (9, v, m, sl, of2, v1) (cN co i) 99).1 && rMay (rExtends (9, v, m, sl, of2, v1) (cN co i) 99).2, (rExtends (9, v, m, sl, of2, v1) (cN co i) 99).2) := by simp [rTakes, rLast, h59]
    rw [e1]
    show ((rExtends (9, v, m, sl, of2, v1) (cN co i) 99).1 && _) = false
    rw [ext_f (fun hd => by
      have := dg_le hd
      rcases ht hi hd with q | q
      · exact Or.inl q
      · exact Or.inr (by omega))]
    rfl
  · rw [upd_n (by omega), upd_n (by omega), upd_n (by omega), upd_n (by omega), upd_n (by omega), upd_n (by omega)]
  · rw [upd_s, upd_n (show (4 * tn) + 2 ≠ (4 * tn) + 3 by omega), upd_s, upd_n (show (4 * tn) + 1 ≠ (4 * tn) + 3 by omega), upd_n (show (4 * tn) + 1 ≠ (4 * tn) + 2 by omega), upd_n (show (4 * tn) + 1 ≠ (4 * tn) + 3 by omega), upd_n (show (4 * tn) + 1 ≠ (4 * tn) + 2 by omega), upd_s, upd_n (show (4 * tn) ≠ (4 * tn) + 3 by omega), upd_n (show (4 * tn) ≠ (4 * tn) + 2 by omega), upd_n (show (4 * tn) ≠ (4 * tn) + 3 by omega), upd_n (show (4 * tn) ≠ (4 * tn) + 2 by omega), upd_n (show (4 * tn) ≠ (4 * tn) + 1 by omega), upd_s]
    rfl
theorem PP_le {b : Bool} (h : PP d co len s td tn b i ft td') : i ≤ len := by
  cases b
  · exact (h.1 rfl).1.1
  · obtain ⟨-, e, hR, -⟩ := h.2 rfl
    exact hR.1
end TXP
def cm (td T : Nat → Int32) (n : Nat) : Nat → Nat → Int32
  | 0 => T
  | k + 1 => pAdd (cm td T n k) (n + k) (td (4 * k)) (td (4 * k + 1)) (td (4 * k + 2)) (td (4 * k + 3))
def TI (d : DT) (co : Nat → Int32) (len : Nat) (mo : Bool) (i tn : Nat) (td : Nat → Int32) : Prop :=
  i ≤ len ∧ (∀ j, j < i → okR d co j = true) ∧
  (mo = true → 5 * tn ≤ i ∧ sc co i = tn ∧ (∃ nu sl off fi, rRun d co i = (0, nu, false, sl, off, fi)) ∧ ∀ T n, rWg d co T n i = cm td T n tn) ∧
  (mo = false → 5 * tn ≤ i + 1 ∧ sc co i + 1 = tn ∧ rWhole (rRun d co i) = true ∧ (i < len → okR d co i = false) ∧ ∀ T n, rWr (rRun d co i) (rWg d co T n i) (n + sc co i) = cm td T n tn)
def TP (d : DT) (co : Nat → Int32) (len : Nat) (b : Bool) (i : Nat) (ft : Bool) (td : Nat → Int32) (tn : Nat) : Prop :=
  b = rAll d co len ∧ i ≤ len ∧ (b = true → tn = sc co len + 1 ∧ tn ≤ 12 ∧ rErr d co len = len ∧ ∀ T n, cm td T n tn = rWs d co T n len) ∧ (b = false → ft = true → i = rErr d co len) ∧ (b = false → ft = false → rErr d co len = len)
section TXT
variable {d : DT} {co : Nat → Int32} {len s i : Nat} {tn : Nat} {ft mo : Bool} {td td' : Nat → Int32}
theorem cm_cong {T : Nat → Int32} {n : Nat} : ∀ {k : Nat}, (∀ j, j < 4 * k → td j = td' j) → cm td T n k = cm td' T n k
  | 0, _ => rfl
  | k + 1, h => by
    rw [cm, cm, cm_cong (k := k) (fun j hj => h j (by omega)), h (4 * k) (by omega), h (4 * k + 1) (by omega), h (4 * k + 2) (by omega), h (4 * k + 3) (by omega)]
theorem sc_flat : ∀ {k : Nat}, (∀ j, s ≤ j → j < s + k → cN co j ≠ 59) → sc co (s + k) = sc co s ∧ ∀ T n, rWg d co T n (s + k) = rWg d co T n s
  | 0, _ => ⟨rfl, fun _ _ => rfl⟩
  | k + 1, h => by
    obtain ⟨h1, h2⟩ := sc_flat (k := k) (fun j a b => h j a (by omega))
    have h3 := h (s + k) (by omega) (by omega)
    refine ⟨?_, fun T n => ?_⟩
    · show sc co (s + k) + (if cN co (s + k) = 59 then 1 else 0) = _
      rw [if_neg h3, h1, Nat.add_zero]
    · show (if cN co (s + k) = 59 then _ else rWg d co T n (s + k)) = _
      rw [if_neg h3, h2]
theorem TI_0 (d : DT) (co : Nat → Int32) (len : Nat) (td : Nat → Int32) : TI d co len true 0 0 td := by
  obtain ⟨a, b, c, x, y, z⟩ := d
  exact ⟨Nat.zero_le _, fun j hj => absurd hj (Nat.not_lt_zero j), fun _ => ⟨Nat.le_refl _, rfl, ⟨b, x, y, z, rfl⟩, fun _ _ => rfl⟩, fun q => absurd q (by decide)⟩
theorem TI_tn (hlen : len ≤ 60) (h : TI d co len mo i tn td) : tn ≤ 12 := by
  obtain ⟨h1, h2, h3, h4⟩ := h
  cases mo
  · have := (h4 rfl).1; omega
  · have := (h3 rfl).1; omega
theorem TI_RS (h : TI d co len true i tn td) : ∃ nu sl off fi, RS d co len i i (0, nu, false, sl, off, fi) := by
  obtain ⟨h1, h2, h3, -⟩ := h
  obtain ⟨-, -, ⟨nu, sl, off, fi, h4⟩, -⟩ := h3 rfl
  exact ⟨nu, sl, off, fi, h1, h2, fun j a b => by omega, h4⟩
theorem TI_next (h : TI d co len true s tn td) (hP : PP d co len s td tn true i ft td') : (atB co len i 59 59 = true ∧ TI d co len true (i + 1) (tn + 1) td') ∨ (atB co len i 59 59 = false ∧ TI d co len false (i + 0) (tn + 1) td') := by
  obtain ⟨h1, h2, h3, -⟩ := h
  obtain ⟨h5, hsc, -, hwg⟩ := h3 rfl
  obtain ⟨p1, e, ⟨r1, r2, r3, r4⟩, hw, hstop, htd, hwr⟩ := hP.2 rfl
  obtain ⟨k, rfl⟩ : ∃ k, i = s + k := ⟨i - s, by omega⟩
  obtain ⟨f1, f2⟩ := sc_flat (d := d) (s := s) (k := k) r3
  have hcm : ∀ T n, rWr e (rWg d co T n (s + k)) (n + sc co (s + k)) = cm td' T n (tn + 1) := fun T n => by
    rw [hwr, f1, f2, hwg, hsc, cm, cm_cong htd]
  cases hb : atB co len (s + k) 59 59
  · refine Or.inr ⟨rfl, r1, r2, fun q => absurd q (by decide), fun _ => ⟨by omega, by show sc co (s + k) + 1 = tn + 1; rw [f1, hsc], by show rWhole (rRun d co (s + k)) = true; rw [r4]; exact hw, fun hi => ?_, fun T n => by show rWr (rRun d co (s + k)) (rWg d co T n (s + k)) (n + sc co (s + k)) = _; rw [r4]; exact hcm T n⟩⟩
    have hi : s + k < len := hi
    show (rTakes (rRun d co (s + k)) (cN co (s + k))).1 = false
    rw [r4]
    exact hstop hi (atB_n hb hi)
  · obtain ⟨hi, hx⟩ := atB_i hb
    have ht : rTakes e 59 = (true, rStart e) := by
      rcases rWhole_st hw with q | q
      · obtain ⟨a, b, c, x, y, z⟩ := e
        have q : a = 5 := q
        subst q; rfl
      · obtain ⟨a, b, c, x, y, z⟩ := e
        have q : a = 9 := q
        subst q
        show rLast (9, b, c, x, y, z) 59 = _
        rw [rLast, if_pos rfl, if_pos hw]
    refine Or.inl ⟨rfl, hi, fun j hj => ?_, fun _ => ⟨by omega, ?_, ?_, fun T n => ?_⟩, fun q => absurd q (by decide)⟩
    · rcases Nat.lt_or_ge j (s + k) with q | q
      · exact r2 j q
      · rw [show j = s + k by omega, okR, r4, hx, ht]
    · show sc co (s + k) + (if cN co (s + k) = 59 then 1 else 0) = _
      rw [if_pos hx, f1, hsc]
    · rw [rRun, r4, hx, ht]
      obtain ⟨a, b, c, x, y, z⟩ := e
      exact ⟨b, x, y, z, rfl⟩
    · show (if cN co (s + k) = 59 then rWr (rRun d co (s + k)) (rWg d co T n (s + k)) (n + sc co (s + k)) else _) = _
      rw [if_pos hx, r4]; exact hcm T n
theorem okR_f {k : Nat} (h : k < len) (h2 : ∀ j, j < k → okR d co j = true) (h3 : okR d co k = false) : rErr d co len = k ∧ rAll d co len = false := by
  have e : rErr d co len = k := rErr_a h h2 h3
  refine ⟨e, ?_⟩
  have : ¬ k = len := by omega
  rw [rAll, e]; simp [this]
theorem okR_l (h2 : ∀ j, j < len → okR d co j = true) : rErr d co len = len ∧ rAll d co len = rWhole (rRun d co len) := by
  have e : rErr d co len = len := rErr_b (Nat.le_refl _) h2 (Nat.le_refl _)
  refine ⟨e, ?_⟩
  rw [rAll, e, Nat.min_eq_right (Nat.le_succ len)]; simp
theorem TP_f (h : FE d co len i ∧ ft = decide (i < len)) : TP d co len false i ft td tn := by
  obtain ⟨⟨h1, h2, h3, h4⟩, rfl⟩ := h
  rcases Nat.lt_or_ge i len with q | q
  · obtain ⟨e1, e2⟩ := okR_f q h2 (h3 q)
    exact ⟨e2.symm, h1, fun z => absurd z (by decide), fun _ _ => e1.symm, fun _ z => by simp [q] at z⟩
  · have hi : i = len := by omega
    subst hi
    obtain ⟨e1, e2⟩ := okR_l h2
    exact ⟨by rw [e2, h4 rfl], h1, fun z => absurd z (by decide), fun _ z => by simp at z, fun _ _ => e1⟩
theorem TP_1 (h : TI d co len false i tn td) (hi : i < len) : TP d co len false i true td tn := by
  obtain ⟨h1, h2, -, h4⟩ := h
  obtain ⟨-, -, -, h5, -⟩ := h4 rfl
  obtain ⟨e1, e2⟩ := okR_f hi h2 (h5 hi)
  exact ⟨e2.symm, h1, fun z => absurd z (by decide), fun _ _ => e1.symm, fun _ z => absurd z (by decide)⟩
theorem TP_2 (hlen : len ≤ 60) (h : TI d co len false i tn td) (hi : i = len) : TP d co len true i ft td tn := by
  have htn := TI_tn hlen h
  subst hi
  obtain ⟨h1, h2, -, h4⟩ := h
  obtain ⟨-, h6, h7, -, h8⟩ := h4 rfl
  obtain ⟨e1, e2⟩ := okR_l h2
  exact ⟨by rw [e2, h7], h1, fun _ => ⟨h6.symm, htn, e1, fun T n => (h8 T n).symm⟩, fun z => absurd z (by decide), fun z => absurd z (by decide)⟩
end TXT
