/-! the tree over the places -/
def gF (k : Nat) : Nat := (k - 2 ^ Nat.log2 k) * (64 / 2 ^ Nat.log2 k)
def gL (k : Nat) : Nat := gF k + 64 / 2 ^ Nat.log2 k - 1
def ndB (k : Nat) : Bool := decide (1 ≤ k) && decide (k ≤ 127)
theorem ndB_of {k : Nat} (h : ndB k = true) : 1 ≤ k ∧ k ≤ 127 := by simp [ndB] at h; exact h
theorem ndB_t {k : Nat} (h : 1 ≤ k) (h2 : k ≤ 127) : ndB k = true := by simp [ndB, h, h2]
theorem geo_all : ∀ k, k < 128 → 1 ≤ k → gF k ≤ gL k ∧ gL k < 64 ∧ (gF k = gL k ↔ 64 ≤ k) ∧ (k < 64 → gF (2 * k) = gF k ∧ gL (2 * k) = (gF k + gL k) / 2 ∧ gF (2 * k + 1) = (gF k + gL k) / 2 + 1 ∧ gL (2 * k + 1) = gL k) := by decide +kernel
def GEO (fp lp : Nat → Int32) : Prop := ∀ k, 1 ≤ k → k ≤ 127 → fp k = nI (gF k) ∧ lp k = nI (gL k)
abbrev KS : Type := (Nat → Int32) × (Nat → Int32)
/-- a line put into a node of at most f levels, by its own steps -/
def tPut (T : Nat → Int32) : Nat → Nat → Nat → KS → KS
  | 0, _, _, S => S
  | f + 1, l, k, S =>
    if k < 1 ∨ 127 < k then S
    else if T (l * 6 + 3) < nI (gF k) ∨ ¬ T (l * 6 + 2) ≤ nI (gL k) then S
    else if nI (gF k) < T (l * 6 + 2) ∨ ¬ nI (gL k) ≤ T (l * 6 + 3) then tPut T f l (2 * k + 1) (tPut T f l (2 * k) S)
    else if S.1 k = -1 then (upd S.1 k (nI l), upd S.2 k (S.2 k + nI 1))
    else if low T l (S.1 k).toNatClampNeg ((gF k + gL k) / 2) = true then
      (if gF k = gL k then (upd S.1 k (nI l), upd S.2 k (S.2 k + nI 1))
       else if low T (S.1 k).toNatClampNeg l (gF k) = true then tPut T f (S.1 k).toNatClampNeg (2 * k) (upd S.1 k (nI l), upd S.2 k (S.2 k + nI 1))
       else if low T (S.1 k).toNatClampNeg l (gL k) = true then tPut T f (S.1 k).toNatClampNeg (2 * k + 1) (upd S.1 k (nI l), upd S.2 k (S.2 k + nI 1))
       else (upd S.1 k (nI l), upd S.2 k (S.2 k + nI 1)))
    else
      (if gF k = gL k then (S.1, upd S.2 k (S.2 k + nI 1))
       else if low T l (S.1 k).toNatClampNeg (gF k) = true then tPut T f l (2 * k) (S.1, upd S.2 k (S.2 k + nI 1))
       else if low T l (S.1 k).toNatClampNeg (gL k) = true then tPut T f l (2 * k + 1) (S.1, upd S.2 k (S.2 k + nI 1))
       else (S.1, upd S.2 k (S.2 k + nI 1)))
def KOK (ke : Nat → Int32) (n : Nat) : Prop := ∀ j, j < 128 → ke j = -1 ∨ ∃ g, g < n ∧ ke j = nI g
theorem KOK_at {ke : Nat → Int32} {n k : Nat} (h : KOK ke n) (hk : k < 128) (hne : ¬ ke k = -1) : ∃ g, g < n ∧ ke k = nI g := (h k hk).elim (fun q => absurd q hne) id
theorem KOK_upd {ke : Nat → Int32} {n k l : Nat} (h : KOK ke n) (hl : l < n) : KOK (upd ke k (nI l)) n := fun j hj => by
  by_cases q : j = k
  · rw [q, upd_s]; exact Or.inr ⟨l, hl, rfl⟩
  · rw [upd_n q]; exact h j hj
section TPUT
variable {T : Nat → Int32} {n : Nat}
theorem tPut_ok (hn : n ≤ 20) : ∀ (f l k : Nat) (S : KS), l < n → KOK S.1 n → KOK (tPut T f l k S).1 n
  | 0, _, _, S, _, h => h
  | f + 1, l, k, S, hl, h => by
    have ih := tPut_ok hn f
    unfold tPut
    split
    · exact h
    · rename_i hk
      split
      · exact h
      · split
        · exact ih l (2 * k + 1) _ hl (ih l (2 * k) _ hl h)
        · split
          · exact KOK_upd h hl
          · rename_i hne
            obtain ⟨g, hg, e⟩ := KOK_at h (by omega) hne
            have hc : (S.1 k).toNatClampNeg = g := by rw [e, nI_clamp (by omega)]
            rw [hc]
            split
            · repeat' split
              all_goals first | exact KOK_upd h hl | exact ih g _ _ hg (KOK_upd h hl)
            · repeat' split
              all_goals first | exact h | exact ih l _ _ hl h
section
variable {f l k g : Nat} {ke sp : Nat → Int32}
theorem tP_0 (h : k < 1 ∨ 127 < k) : tPut T (f + 1) l k (ke, sp) = (ke, sp) := by rw [tPut, if_pos h]
theorem tP_1 (h1 : T (l * 6 + 3) < nI (gF k)) : tPut T (f + 1) l k (ke, sp) = (ke, sp) := by
  rw [tPut]; split
  · rfl
  · rw [if_pos (Or.inl h1)]
theorem tP_2 (h1 : ¬ T (l * 6 + 2) ≤ nI (gL k)) : tPut T (f + 1) l k (ke, sp) = (ke, sp) := by
  rw [tPut]; split
  · rfl
  · rw [if_pos (Or.inr h1)]
theorem tP_3 (h0 : 1 ≤ k) (h00 : k ≤ 127) (h1 : ¬ T (l * 6 + 3) < nI (gF k)) (h2 : T (l * 6 + 2) ≤ nI (gL k)) (h3 : nI (gF k) < T (l * 6 + 2) ∨ ¬ nI (gL k) ≤ T (l * 6 + 3)) : tPut T (f + 1) l k (ke, sp) = tPut T f l (2 * k + 1) (tPut T f l (2 * k) (ke, sp)) := by
  rw [tPut, if_neg (by omega), if_neg (fun q => q.elim h1 (fun q => q h2)), if_pos h3]
theorem tP_4 (h0 : 1 ≤ k) (h00 : k ≤ 127) (h1 : ¬ T (l * 6 + 3) < nI (gF k)) (h2 : T (l * 6 + 2) ≤ nI (gL k)) (h3 : ¬ nI (gF k) < T (l * 6 + 2)) (h4 : nI (gL k) ≤ T (l * 6 + 3)) (h5 : ke k = -1) : tPut T (f + 1) l k (ke, sp) = (upd ke k (nI l), upd sp k (sp k + nI 1)) := by
  rw [tPut, if_neg (by omega), if_neg (fun q => q.elim h1 (fun q => q h2)), if_neg (fun q => q.elim h3 (fun q => q h4)), if_pos h5]
/-- where the node keeps the line g -/
def tRest (T : Nat → Int32) (f l k g : Nat) (ke sp : Nat → Int32) : KS :=
    if low T l g ((gF k + gL k) / 2) = true then
      (if gF k = gL k then (upd ke k (nI l), upd sp k (sp k + nI 1))
       else if low T g l (gF k) = true then tPut T f g (2 * k) (upd ke k (nI l), upd sp k (sp k + nI 1))
       else if low T g l (gL k) = true then tPut T f g (2 * k + 1) (upd ke k (nI l), upd sp k (sp k + nI 1))
       else (upd ke k (nI l), upd sp k (sp k + nI 1)))
    else
      (if gF k = gL k then (ke, upd sp k (sp k + nI 1))
       else if low T l g (gF k) = true then tPut T f l (2 * k) (ke, upd sp k (sp k + nI 1))
       else if low T l g (gL k) = true then tPut T f l (2 * k + 1) (ke, upd sp k (sp k + nI 1))
       else (ke, upd sp k (sp k + nI 1)))
theorem nI_ne1 {g : Nat} (hg : g < 2 ^ 31) : ¬ nI g = -1 := fun q => by
  have q2 : (nI g).toInt = (-1 : Int32).toInt := congrArg Int32.toInt q
  rw [nI_toInt hg] at q2
  have : (-1 : Int32).toInt = -1 := by decide
  omega
theorem tP_5 (h0 : 1 ≤ k) (h00 : k ≤ 127) (h1 : ¬ T (l * 6 + 3) < nI (gF k)) (h2 : T (l * 6 + 2) ≤ nI (gL k)) (h3 : ¬ nI (gF k) < T (l * 6 + 2)) (h4 : nI (gL k) ≤ T (l * 6 + 3)) (h5 : ke k = nI g) (hg : g < 2 ^ 31) : tPut T (f + 1) l k (ke, sp) = tRest T f l k g ke sp := by
  have e : (ke k).toNatClampNeg = g := by rw [h5, nI_clamp hg]
  rw [tPut, if_neg (by omega), if_neg (fun q => q.elim h1 (fun q => q h2)), if_neg (fun q => q.elim h3 (fun q => q h4)), if_neg (by show ¬ ke k = -1; rw [h5]; exact nI_ne1 hg)]
  show (if low T l (ke k).toNatClampNeg _ = true then _ else _) = _
  rw [e]; rfl
end
theorem tPut_cong (hn : n ≤ 20) : ∀ (f l k : Nat) (S S' : KS), (∀ j, j < 128 → S.1 j = S'.1 j ∧ S.2 j = S'.2 j) → ∀ j, j < 128 → (tPut T f l k S).1 j = (tPut T f l k S').1 j ∧ (tPut T f l k S).2 j = (tPut T f l k S').2 j
  | 0, _, _, _, _, h => h
  | f + 1, l, k, S, S', h => by
    have ih := tPut_cong hn f
    unfold tPut
    split
    · exact h
    · rename_i hk
      have ek := h k (by omega)
      have hu : ∀ (A B : Nat → Int32) (v : Int32), (∀ j, j < 128 → A j = B j) → ∀ j, j < 128 → upd A k v j = upd B k v j := fun A B v hab j hj => by
        by_cases q : j = k
        · rw [q, upd_s, upd_s]
        · rw [upd_n q, upd_n q]; exact hab j hj
      have hsp : ∀ j, j < 128 → upd S.2 k (S.2 k + nI 1) j = upd S'.2 k (S'.2 k + nI 1) j := by
        rw [ek.2]; exact hu _ _ _ (fun j hj => (h j hj).2)
      have hke : ∀ l j, j < 128 → upd S.1 k (nI l) j = upd S'.1 k (nI l) j := fun l => hu _ _ _ (fun j hj => (h j hj).1)
      split
      · exact h
      · split
        · exact ih _ _ _ _ (ih _ _ _ _ h)
        · rw [ek.1]
          split
          · exact fun j hj => ⟨hke l j hj, hsp j hj⟩
          · split
            · repeat' split
              all_goals first | exact fun j hj => ⟨hke l j hj, hsp j hj⟩ | exact ih _ _ _ _ (fun j hj => ⟨hke l j hj, hsp j hj⟩)
            · repeat' split
              all_goals first | exact fun j hj => ⟨(h j hj).1, hsp j hj⟩ | exact ih _ _ _ _ (fun j hj => ⟨(h j hj).1, hsp j hj⟩)
end TPUT
def tAll (T : Nat → Int32) (mo : Nat) (S : KS) : Nat → KS
  | 0 => S
  | i + 1 => if lvB T i (nI mo) = true then tPut T 7 i 1 (tAll T mo S i) else tAll T mo S i
def tkF (T : Nat → Int32) (n mo : Nat) : KS := tAll T mo (fun _ => -1, fun _ => nI 0) n
def kp (T : Nat → Int32) (n mo k : Nat) : Int32 := (tkF T n mo).1 k
def stp (T : Nat → Int32) (n mo k : Nat) : Int32 := (tkF T n mo).2 k
def nds (T : Nat → Int32) (n mo : Nat) (ln : Int32) : Nat → Nat
  | 0 => 0
  | k + 1 => nds T n mo ln k + if 1 ≤ k ∧ kp T n mo k = ln then 1 else 0
def sts (T : Nat → Int32) (n mo : Nat) : Nat → Int32
  | 0 => nI 0
  | k + 1 => if 1 ≤ k then sts T n mo k + stp T n mo k else sts T n mo k
section TALL
variable {T : Nat → Int32} {n mo ver : Nat}
theorem tAll_ok (hn : n ≤ 20) {S : KS} (h : KOK S.1 n) : ∀ i, i ≤ n → KOK (tAll T mo S i).1 n
  | 0, _ => h
  | i + 1, hi => by
    have ih := tAll_ok hn h i (by omega)
    unfold tAll; split
    · exact tPut_ok hn _ _ _ _ (by omega) ih
    · exact ih
theorem tAll_cong (hn : n ≤ 20) {S S' : KS} (h : ∀ j, j < 128 → S.1 j = S'.1 j ∧ S.2 j = S'.2 j) : ∀ i j, j < 128 → (tAll T mo S i).1 j = (tAll T mo S' i).1 j ∧ (tAll T mo S i).2 j = (tAll T mo S' i).2 j
  | 0 => h
  | i + 1 => by
    have ih := tAll_cong hn h i
    unfold tAll; split
    · exact tPut_cong hn _ _ _ _ _ ih
    · exact ih
theorem tA_1 {S : KS} {i : Nat} (h : lvB T i (nI mo) = true) : tPut T 7 i 1 (tAll T mo S i) = tAll T mo S (i + 1) := by rw [tAll, if_pos h]
theorem tA_0 {S : KS} {i : Nat} (h : lvB T i (nI mo) = false) : tAll T mo S i = tAll T mo S (i + 1) := by rw [tAll, if_neg (by simp [h])]
theorem KOK_fill {f : Nat → Int32} : KOK (fillF f (-1) 128) n := fun j hj => Or.inl (by simp [fillF, hj])
def TK (T : Nat → Int32) (n mo ver : Nat) (Tr : TT) : Prop := GEO Tr.1 Tr.2.1 ∧ Tr.2.2.2.2 = nI ver ∧ ∃ ke sp, (Tr.2.2.1, Tr.2.2.2.1) = tAll T mo (fillF ke (-1) 128, fillF sp (nI 0) 128) n
def TCI (T : Nat → Int32) (n mo ver : Nat) (Tr : TT) : Prop := GEO Tr.1 Tr.2.1 ∧ old ver Tr.2.2.2.2 ∧ (Tr.2.2.2.2 = nI ver → TK T n mo ver Tr)
theorem TK.ci {Tr : TT} (h : TK T n mo ver Tr) : TCI T n mo ver Tr := ⟨h.1, Or.inr ⟨ver, Nat.le_refl _, h.2.1⟩, fun _ => h⟩
theorem TCI.bump {T' : Nat → Int32} {n' mo' ver' : Nat} {Tr : TT} (h : TCI T n mo ver Tr) (hv : ver < ver') (hb : ver' < 2 ^ 31) : TCI T' n' mo' ver' Tr := ⟨h.1, h.2.1.up (by omega), fun q => absurd q (h.2.1.ne hv hb)⟩
theorem TK.val {Tr : TT} (h : TK T n mo ver Tr) (hn : n ≤ 20) {k : Nat} (hk : k < 128) : Tr.2.2.1 k = kp T n mo k ∧ Tr.2.2.2.1 k = stp T n mo k := by
  obtain ⟨-, -, ke, sp, e⟩ := h
  have e1 : Tr.2.2.1 = (tAll T mo (fillF ke (-1) 128, fillF sp (nI 0) 128) n).1 := congrArg Prod.fst e
  have e2 : Tr.2.2.2.1 = (tAll T mo (fillF ke (-1) 128, fillF sp (nI 0) 128) n).2 := congrArg Prod.snd e
  rw [e1, e2]
  exact tAll_cong hn (fun j hj => by simp [fillF, hj]) n k hk
end TALL
