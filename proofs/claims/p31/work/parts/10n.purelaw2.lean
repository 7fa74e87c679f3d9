/-! p31: what a line is worth, first moments, the tree's nodes and steps, sums over the lines -/
section WRT
variable {T : Nat → Int32} {n mo : Nat}
theorem wo_rng (hn : n ≤ 20) (hT : TOK T n) {l : Nat} (hl : l < n) : ∀ x s, x ≤ 64 → wo T n mo l x = some s → 0 ≤ s.toInt ∧ s.toInt ≤ 32472 * (x : Int)
  | 0, s, _, h => by
    cases h
    have e : (nI 0).toInt = 0 := by decide
    rw [e]; omega
  | x + 1, s, hx, h => by
    cases hw : wo T n mo l x with
    | none => rw [wo, hw] at h; cases h
    | some s0 =>
      have ih := wo_rng hn hT hl x s0 (by omega) hw
      rw [wo, hw] at h
      by_cases hp : plo T n mo x = nI l
      · have h : (match lb T x mo (nI l) n with | none => none | some g => some (s0 + (pVal T g x - pVal T l x))) = some s := by
          rw [← h]; exact (if_pos hp).symm
        cases hg : lb T x mo (nI l) n with
        | none => rw [hg] at h; cases h
        | some g =>
          rw [hg] at h
          cases h
          obtain ⟨g1, g2, g3, -⟩ := lb_some hg
          cases h0 : lb T x mo (-1) n with
          | none => rw [lb_none h0 g g1 (nI_neO (by omega))] at g3; cases g3
          | some q =>
            obtain ⟨q1, q2, q3, q4⟩ := lb_some h0
            rw [plo_s h0] at hp
            have e : q = l := (nI_eq (by omega) (by omega)).mp hp
            subst e
            have h5 := q4 g g1 (nI_neO (by omega)) g3
            obtain ⟨-, a1, a2⟩ := pVal_eq (hT g g1) (show x < 64 by omega)
            obtain ⟨-, b1, b2⟩ := pVal_eq (hT q q1) (show x < 64 by omega)
            have e1 : (pVal T g x - pVal T q x).toInt = (pVal T g x).toInt - (pVal T q x).toInt := i32_sub (by omega) (by omega)
            have e2 : (s0 + (pVal T g x - pVal T q x)).toInt = s0.toInt + ((pVal T g x).toInt - (pVal T q x).toInt) := by
              rw [i32_add (by rw [e1]; omega) (by rw [e1]; omega), e1]
            rw [e2]; omega
      · have h : some s0 = some s := by rw [← h]; exact (if_neg hp).symm
        cases h; omega
theorem woV_ge (hn : n ≤ 20) (hT : TOK T n) {l : Nat} (hl : l < n) : ¬ woV T n mo l < -1 := by
  rw [woV]
  cases h : wo T n mo l 64 with
  | none => decide
  | some s =>
    have := wo_rng hn hT hl 64 s (by decide) h
    show ¬ s < -1
    rw [Int32.lt_iff_toInt_lt]
    have e : (-1 : Int32).toInt = -1 := by decide
    omega
/-! places of a line, first moments -/
theorem plc_0 {ln : Int32} : ∀ m, (∀ x, x < m → ¬ plo T n mo x = ln) → plc T n mo ln m = 0
  | 0, _ => rfl
  | m + 1, h => by rw [plc, plc_0 m (fun x hx => h x (by omega)), if_neg (h m (Nat.lt_succ_self m))]
theorem plc_b {ln : Int32} : ∀ m, plc T n mo ln m ≤ m
  | 0 => Nat.le_refl _
  | m + 1 => by have := plc_b (ln := ln) m; rw [plc]; split <;> omega
theorem plc_dead {l : Nat} (hn : n ≤ 20) (hl : l < n) (h : lvB T l (nI mo) = false) : plc T n mo (nI l) 64 = 0 := plc_0 64 (fun x hx q => by
  have h1 := (plo_eq hn hl).mp q
  have h2 := (lb_some h1).2.2.1
  rw [cnt, h, Bool.and_false] at h2; cases h2)
theorem fmo_in (hn : n ≤ 20) (hT : TOK T n) (hmo : mo < 100) {l : Nat} (hl : l < n) (h : ¬ plc T n mo (nI l) 64 = 0) : ∃ t : Nat, t ≤ mo ∧ fmo T n l = nI t := by
  have hx : ∃ x, x < 64 ∧ plo T n mo x = nI l := Classical.byContradiction (fun q => h (plc_0 64 (fun x hx e => q ⟨x, hx, e⟩)))
  obtain ⟨x, hx, e⟩ := hx
  have ha := anx_y hx ((plo_eq hn hl).mp e)
  rw [fmo_eq hT, fmM]
  have hle : fst0 (anx T n l) 100 ≤ mo := by
    rcases Nat.lt_or_ge mo (fst0 (anx T n l) 100) with q | q
    · have := fst0_no _ _ _ q; rw [ha] at this; cases this
    · exact q
  exact ⟨_, hle, by rw [orN, if_pos (by omega)]⟩
/-! sums over the lines -/
def sumN (f : Nat → Nat) : Nat → Nat
  | 0 => 0
  | i + 1 => sumN f i + f i
theorem sumN_cong {f g : Nat → Nat} : ∀ m, (∀ i, i < m → f i = g i) → sumN f m = sumN g m
  | 0, _ => rfl
  | m + 1, h => by rw [sumN, sumN, sumN_cong m (fun i hi => h i (by omega)), h m (Nat.lt_succ_self m)]
theorem sumN_miss {a : Nat → Nat} {v : Int32} : ∀ m, (∀ i, i < m → ¬ v = nI i) → sumN (fun i => a i + if v = nI i then 1 else 0) m = sumN a m
  | 0, _ => rfl
  | m + 1, h => by rw [sumN, sumN, sumN_miss m (fun i hi => h i (by omega)), if_neg (h m (Nat.lt_succ_self m))]; rfl
theorem sumN_hit {a : Nat → Nat} {g : Nat} : ∀ m, m ≤ 20 → g < m → sumN (fun i => a i + if nI g = nI i then 1 else 0) m = sumN a m + 1
  | 0, _, h => absurd h (Nat.not_lt_zero g)
  | m + 1, hm, h => by
    rw [sumN, sumN]
    rcases Nat.lt_or_ge g m with q | q
    · rw [sumN_hit m (by omega) q, if_neg (fun e => by have := (nI_eq (by omega) (by omega)).mp e; omega)]; omega
    · have e : g = m := by omega
      subst e
      rw [if_pos rfl, sumN_miss g (fun i hi e => by have := (nI_eq (by omega) (by omega)).mp e; omega)]; omega
theorem sum_plc (hn : n ≤ 20) : ∀ x, sumN (fun l => plc T n mo (nI l) x) n + plc T n mo (-1) x = x
  | 0 => by
    show sumN (fun l => 0) n + 0 = 0
    have : ∀ m, sumN (fun _ => 0) m = 0 := fun m => by induction m with
      | zero => rfl
      | succ m ih => rw [sumN, ih]
    rw [this]
  | x + 1 => by
    have ih := sum_plc hn x
    show sumN (fun l => plc T n mo (nI l) x + if plo T n mo x = nI l then 1 else 0) n + (plc T n mo (-1) x + if plo T n mo x = -1 then 1 else 0) = x + 1
    cases h : lb T x mo (-1) n with
    | none =>
      rw [plo_n h, sumN_miss n (fun i hi e => nI_neO (by omega : i < 2 ^ 31) e.symm), if_pos rfl]; omega
    | some g =>
      have hg := lb_lt _ _ _ _ _ _ h
      rw [plo_s h, sumN_hit n hn hg, if_neg (nI_neO (by omega))]; omega
/-! the tree: what a node keeps, its steps -/
def SQ (T : Nat → Int32) (n mo B : Nat) (S : KS) : Prop := ∀ j, j < 128 → (S.1 j = -1 ∨ ∃ g, g < n ∧ S.1 j = nI g ∧ lvB T g (nI mo) = true) ∧ ∃ s, s ≤ B ∧ S.2 j = nI s ∧ (S.1 j = -1 ∨ 1 ≤ s)
theorem SQ.up {B B' : Nat} {S : KS} (h : SQ T n mo B S) (hb : B ≤ B') : SQ T n mo B' S := fun j hj => by
  obtain ⟨h1, s, h2, h3, h4⟩ := h j hj
  exact ⟨h1, s, by omega, h3, h4⟩
theorem SQ.k {B l k : Nat} {S : KS} (h : SQ T n mo B S) (hl : l < n) (hv : lvB T l (nI mo) = true) (hk : k < 128) : SQ T n mo (B + 1) (upd S.1 k (nI l), upd S.2 k (S.2 k + nI 1)) := fun j hj => by
  by_cases q : j = k
  · subst q
    obtain ⟨h1, s, h2, h3, h4⟩ := h j hj
    show (upd S.1 j (nI l) j = -1 ∨ ∃ g, g < n ∧ upd S.1 j (nI l) j = nI g ∧ lvB T g (nI mo) = true) ∧ ∃ s, s ≤ B + 1 ∧ upd S.2 j (S.2 j + nI 1) j = nI s ∧ (upd S.1 j (nI l) j = -1 ∨ 1 ≤ s)
    rw [upd_s, upd_s, h3, nI_add]
    exact ⟨Or.inr ⟨l, hl, rfl, hv⟩, s + 1, by omega, rfl, Or.inr (by omega)⟩
  · obtain ⟨h1, s, h2, h3, h4⟩ := h j hj
    show (upd S.1 k (nI l) j = -1 ∨ ∃ g, g < n ∧ upd S.1 k (nI l) j = nI g ∧ lvB T g (nI mo) = true) ∧ ∃ s, s ≤ B + 1 ∧ upd S.2 k (S.2 k + nI 1) j = nI s ∧ (upd S.1 k (nI l) j = -1 ∨ 1 ≤ s)
    rw [upd_n q, upd_n q]
    exact ⟨h1, s, by omega, h3, h4⟩
theorem SQ.s {B k : Nat} {S : KS} (h : SQ T n mo B S) (hk : k < 128) : SQ T n mo (B + 1) (S.1, upd S.2 k (S.2 k + nI 1)) := fun j hj => by
  by_cases q : j = k
  · subst q
    obtain ⟨h1, s, h2, h3, h4⟩ := h j hj
    show (S.1 j = -1 ∨ ∃ g, g < n ∧ S.1 j = nI g ∧ lvB T g (nI mo) = true) ∧ ∃ s, s ≤ B + 1 ∧ upd S.2 j (S.2 j + nI 1) j = nI s ∧ (S.1 j = -1 ∨ 1 ≤ s)
    rw [upd_s, h3, nI_add]
    exact ⟨h1, s + 1, by omega, rfl, Or.inr (by omega)⟩
  · obtain ⟨h1, s, h2, h3, h4⟩ := h j hj
    show (S.1 j = -1 ∨ ∃ g, g < n ∧ S.1 j = nI g ∧ lvB T g (nI mo) = true) ∧ ∃ s, s ≤ B + 1 ∧ upd S.2 k (S.2 k + nI 1) j = nI s ∧ (S.1 j = -1 ∨ 1 ≤ s)
    rw [upd_n q]
    exact ⟨h1, s, by omega, h3, h4⟩
theorem tPut_sq (hn : n ≤ 20) : ∀ (f l k : Nat) (S : KS) (B : Nat), l < n → lvB T l (nI mo) = true → SQ T n mo B S → SQ T n mo (B + 2 ^ f) (tPut T f l k S)
  | 0, _, _, _, _, _, _, h => h.up (by omega)
  | f + 1, l, k, S, B, hl, hv, h => by
    have ih := tPut_sq hn f
    have hp : 2 ^ (f + 1) = 2 ^ f + 2 ^ f := by rw [Nat.pow_succ]; omega
    have h1p : 1 ≤ 2 ^ f := Nat.one_le_two_pow
    rw [hp]
    unfold tPut
    split
    · exact h.up (by omega)
    · rename_i hk
      have hk : k < 128 := by omega
      split
      · exact h.up (by omega)
      · split
        · exact (ih l (2 * k + 1) _ _ hl hv (ih l (2 * k) _ _ hl hv h)).up (by omega)
        · split
          · exact (h.k hl hv hk).up (by omega)
          · rename_i hne
            obtain ⟨hx, -⟩ := h k hk
            rcases hx with hx | ⟨g, hg, e, hgv⟩
            · exact absurd hx hne
            · have hc : (S.1 k).toNatClampNeg = g := by rw [e, nI_clamp (by omega)]
              rw [hc]
              split
              · repeat' split
                all_goals first | exact (h.k hl hv hk).up (by omega) | exact (ih g _ _ _ hg hgv (h.k hl hv hk)).up (by omega)
              · repeat' split
                all_goals first | exact (h.s hk).up (by omega) | exact (ih l _ _ _ hl hv (h.s hk)).up (by omega)
theorem tAll_sq (hn : n ≤ 20) : ∀ i, i ≤ n → SQ T n mo (128 * i) (tAll T mo (fun _ => -1, fun _ => nI 0) i)
  | 0, _ => fun j _ => ⟨Or.inl rfl, 0, Nat.le_refl _, rfl, Or.inl rfl⟩
  | i + 1, hi => by
    have ih := tAll_sq hn i (by omega)
    unfold tAll; split
    · rename_i hv
      exact (tPut_sq hn 7 i 1 _ _ (by omega) hv ih).up (by have : 2 ^ 7 = 128 := by decide
                                                           omega)
    · exact ih.up (by omega)
theorem kp_sq (hn : n ≤ 20) {k : Nat} (hk : k < 128) : (kp T n mo k = -1 ∨ ∃ g, g < n ∧ kp T n mo k = nI g ∧ lvB T g (nI mo) = true) ∧ ∃ s, s ≤ 2560 ∧ stp T n mo k = nI s ∧ (kp T n mo k = -1 ∨ 1 ≤ s) := (tAll_sq (T := T) (mo := mo) hn n (Nat.le_refl n)).up (by omega) k hk
theorem nds_dead {l : Nat} (hn : n ≤ 20) (hl : l < n) (h : lvB T l (nI mo) = false) : ∀ m, m ≤ 128 → nds T n mo (nI l) m = 0
  | 0, _ => rfl
  | m + 1, hm => by
    rw [nds, nds_dead hn hl h m (by omega), if_neg]
    rintro ⟨h1, h2⟩
    obtain ⟨q | ⟨g, hg, e, hv⟩, -⟩ := kp_sq (T := T) (mo := mo) hn (show m < 128 by omega)
    · rw [q] at h2; exact nI_neO (by omega : l < 2 ^ 31) h2.symm
    · rw [e] at h2
      have := (nI_eq (by omega) (by omega)).mp h2
      subst this
      rw [h] at hv; cases hv
theorem nds_b {ln : Int32} : ∀ m, nds T n mo ln m ≤ m
  | 0 => Nat.le_refl _
  | m + 1 => by have := nds_b (ln := ln) m; rw [nds]; split <;> omega
theorem sum_nds (hn : n ≤ 20) : ∀ m, m ≤ 127 → sumN (fun l => nds T n mo (nI l) (m + 1)) n + nds T n mo (-1) (m + 1) = m
  | 0, _ => by
    show sumN (fun l => 0 + if 1 ≤ 0 ∧ kp T n mo 0 = nI l then 1 else 0) n + (0 + if 1 ≤ 0 ∧ kp T n mo 0 = -1 then 1 else 0) = 0
    have : ∀ m, sumN (fun l => 0 + if 1 ≤ 0 ∧ kp T n mo 0 = nI l then 1 else 0) m = 0 := fun m => by induction m with
      | zero => rfl
      | succ m ih => rw [sumN, ih, if_neg (by omega)]
    rw [this, if_neg (by omega)]
  | m + 1, hm => by
    have ih := sum_nds hn m (by omega)
    have e : ∀ ln, nds T n mo ln (m + 1 + 1) = nds T n mo ln (m + 1) + if kp T n mo (m + 1) = ln then 1 else 0 := fun ln => by
      rw [nds]
      by_cases q : kp T n mo (m + 1) = ln
      · rw [if_pos q, if_pos ⟨by omega, q⟩]
      · rw [if_neg q, if_neg (fun w => q w.2)]
    rw [sumN_cong n (fun l _ => e (nI l)), e (-1)]
    obtain ⟨q | ⟨g, hg, eg, -⟩, -⟩ := kp_sq (T := T) (mo := mo) hn (show m + 1 < 128 by omega)
    · rw [q, sumN_miss n (fun i hi e => nI_neO (by omega : i < 2 ^ 31) e.symm), if_pos rfl]; omega
    · rw [eg, sumN_hit n hn hg, if_neg (nI_neO (by omega))]; omega
end WRT
