theorem gd_f {k f : Nat} (h : k = 0 ∨ 128 ≤ k * 2 ^ f) (h0 : 0 < k) (h1 : k ≤ 127) : ∃ f', f = f' + 1 := by
  rcases f with _ | f
  · omega
  · exact ⟨f, rfl⟩
theorem gd_k {k f : Nat} (h : k = 0 ∨ 128 ≤ k * 2 ^ (f + 1)) (h0 : 0 < k) : 128 ≤ 2 * k * 2 ^ f ∧ 128 ≤ (2 * k + 1) * 2 ^ f := pk2 (h.resolve_left (by omega))
section GDS
variable {T : Nat → Int32} {f l k g : Nat} {ke sp : Nat → Int32}
theorem gd_s1 (h0 : ¬ k = 0) (h : ke k = -1) : gd T (f + 1) l k (ke, sp) = (upd ke k (nI l), upd sp k (sp k + nI 1)) := by rw [gd, if_neg h0, if_pos h]
theorem gd_s2 (h0 : ¬ k = 0) (h : ke k = nI g) (hg : g < 2 ^ 31) (hl : low T l g (mdO k) = true) : gd T (f + 1) l k (ke, sp) = if wdO k = 1 then (upd ke k (nI l), upd sp k (sp k + nI 1)) else if low T g l (gF k) = true then gd T f g (2 * k) (upd ke k (nI l), upd sp k (sp k + nI 1)) else if low T g l (gL k) = true then gd T f g (2 * k + 1) (upd ke k (nI l), upd sp k (sp k + nI 1)) else (upd ke k (nI l), upd sp k (sp k + nI 1)) := by
  have e : clI (ke k) = g := by rw [h]; exact nI_clamp hg
  rw [gd, if_neg h0, if_neg (show ¬ ke k = -1 by rw [h]; exact nI_ne1 hg)]
  show (if low T l (clI (ke k)) (mdO k) = true then _ else _) = _
  rw [e, if_pos hl]
theorem gd_s3 (h0 : ¬ k = 0) (h : ke k = nI g) (hg : g < 2 ^ 31) (hl : low T l g (mdO k) = false) : gd T (f + 1) l k (ke, sp) = if wdO k = 1 then (ke, upd sp k (sp k + nI 1)) else if low T l g (gF k) = true then gd T f l (2 * k) (ke, upd sp k (sp k + nI 1)) else if low T l g (gL k) = true then gd T f l (2 * k + 1) (ke, upd sp k (sp k + nI 1)) else (ke, upd sp k (sp k + nI 1)) := by
  have e : clI (ke k) = g := by rw [h]; exact nI_clamp hg
  rw [gd, if_neg h0, if_neg (show ¬ ke k = -1 by rw [h]; exact nI_ne1 hg)]
  show (if low T l (clI (ke k)) (mdO k) = true then _ else _) = _
  rw [e, if_neg (by rw [hl]; decide)]
theorem lo_end {k i lf wd : Nat} (hk : 1 ≤ k) (h1 : lf = k / 2 ^ i) (h2 : wd = 64 / 2 ^ i) (hi : i ≤ Nat.log2 k) (h : lf ≤ 1) : wd = wdO k := by
  have e : i = Nat.log2 k := by
    rcases Nat.lt_or_ge i (Nat.log2 k) with q | q
    · have h3 : 2 ^ (i + 1) ≤ k := Nat.le_trans (Nat.pow_le_pow_right (by decide) q) (Nat.log2_self_le (by omega))
      have h4 : 2 ≤ k / 2 ^ i := (Nat.le_div_iff_mul_le (Nat.two_pow_pos i)).mpr (by rw [Nat.mul_comm, ← Nat.pow_succ]; exact h3)
      omega
    · omega
  rw [h2, e]; rfl
theorem lo_nx {k i lf : Nat} (hk : 1 ≤ k) (h1 : lf = k / 2 ^ i) (hi : i ≤ Nat.log2 k) (h : 1 < lf) : i + 1 ≤ Nat.log2 k := by
  rw [Nat.le_log2 (by omega), Nat.pow_succ, Nat.mul_comm]
  exact (Nat.le_div_iff_mul_le (Nat.two_pow_pos i)).mp (by omega)
theorem nI_nz {k : Nat} (h : 0 < k) (h2 : k < 2 ^ 31) : ¬ nI k = 0 := fun q => by
  have := (nI_eq h2 (by decide : 0 < 2 ^ 31)).mp q
  omega
theorem ntb {b : Bool} (h : b = false) : ¬ b = true := by rw [h]; decide
theorem wd_64 {k : Nat} (h : k ≤ 127) (h2 : ¬ wdO k = 1) : k < 64 := by
  rcases Nat.eq_zero_or_pos k with q | q
  · omega
  · exact Nat.lt_of_not_le (fun w => h2 ((wd_all k (by omega) q).1.mpr ((geo_all k (by omega) q).2.2.1.mpr w)))
theorem lo_d {a k i : Nat} (h : a = k / 2 ^ i) : a / 2 = k / 2 ^ (i + 1) := by rw [h, Nat.pow_succ, Nat.div_div_eq_div_mul]
def mA (T : Nat → Int32) (mo : Nat) (S : KS) : Nat → KS
  | 0 => S
  | l + 1 => if lvB T l (nI mo) = true then mN T l (mA T mo S l) 128 else mA T mo S l
theorem mA_eq {n mo : Nat} (hn : n ≤ 20) (hT : TOK T n) {S : KS} (hK : KOK S.1 n) (hC : KCV T n S.1) : ∀ i, i ≤ n → mA T mo S i = tAll T mo S i ∧ KOK (mA T mo S i).1 n ∧ KCV T n (mA T mo S i).1
  | 0, _ => ⟨rfl, hK, hC⟩
  | i + 1, hi => by
    obtain ⟨e, h1, h2⟩ := mA_eq hn hT hK hC i (by omega)
    have ht := tree_eq hn hT (show i < n by omega) h1 h2
    rw [mA, tAll]
    by_cases hl : lvB T i (nI mo) = true
    · rw [if_pos hl, if_pos hl, ht.1, ← e]; exact ⟨rfl, ht.2⟩
    · rw [if_neg hl, if_neg hl]; exact ⟨e, h1, h2⟩
theorem KCV_fill {n : Nat} {f : Nat → Int32} (hn : n ≤ 20) : KCV T n (fillF f (-1) 128) := fun j h1 h2 g hg e => by
  have : fillF f (-1) 128 j = -1 := by simp [fillF, show j < 128 by omega]
  rw [this] at e; exact absurd e.symm (nI_ne1 (by omega))
theorem mA_inv {n mo : Nat} (hn : n ≤ 20) (hT : TOK T n) {i : Nat} (hi : i ≤ n) : KOK (mA T mo (fillF ke (-1) 128, fillF sp (nI 0) 128) i).1 n ∧ KCV T n (mA T mo (fillF ke (-1) 128, fillF sp (nI 0) 128) i).1 :=
  (mA_eq hn hT KOK_fill (KCV_fill hn) i hi).2
theorem mN_inv {n : Nat} (hn : n ≤ 20) {S : KS} (hl : l < n) (hK : KOK S.1 n) (hC : KCV T n S.1) : ∀ m, m ≤ 128 → KOK (mN T l S m).1 n ∧ KCV T n (mN T l S m).1
  | 0, _ => ⟨hK, hC⟩
  | m + 1, hm => by
    have ih := mN_inv hn hl hK hC m (by omega)
    rw [mN]
    split
    · rename_i hc
      exact gd_inv hn 8 l m _ hl (Or.inr ⟨hc.1, by omega, hc.2.1⟩) ih.1 ih.2
    · exact ih
theorem mN_y {S : KS} {k : Nat} (h1 : 1 ≤ k) (h : hA T l k = true) (h2 : k = 1 ∨ hA T l (k / 2) = false) : gd T 8 l k (mN T l S k) = mN T l S (k + 1) := by rw [mN, if_pos ⟨h1, h, h2⟩]
theorem mN_1 {S : KS} : mN T l S 1 = S := by rw [mN, if_neg (fun q => by have := q.1; omega)]; rfl
theorem mN_x {S : KS} {k : Nat} (h : hA T l k = false) : mN T l S k = mN T l S (k + 1) := by rw [mN, if_neg (fun q => by rw [h] at q; exact absurd q.2.1 (by decide))]
theorem mN_z {S : KS} {k : Nat} (h1 : ¬ k = 1) (h : hA T l (k / 2) = true) : mN T l S k = mN T l S (k + 1) := by rw [mN, if_neg (fun q => by rw [h] at q; exact q.2.2.elim h1 (fun w => absurd w (by decide)))]
theorem grow_val {n mo : Nat} (hn : n ≤ 20) (hT : TOK T n) {U : KS} (h : U = mA T mo (fillF ke (-1) 128, fillF sp (nI 0) 128) n) : ∀ k, k < 128 → U.1 k = kp T n mo k ∧ U.2 k = stp T n mo k := fun k hk => by
  rw [h, (mA_eq hn hT KOK_fill (KCV_fill hn) n (Nat.le_refl _)).1]
  exact tAll_cong hn (fun j hj => by simp [fillF, hj]) n k hk
end GDS
