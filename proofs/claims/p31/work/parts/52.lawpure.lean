/-! p31: the law's own words -/
/-- a look keeps the invariant -/
theorem LIV.obs {K : Nat} {T : Nat → Int32} {n mo ver : Nat} {S : Nat → Int32} {h : Nat} {P P' : PT} {Tr Tr' : TT} {Rg Rg' : RT} {co : Nat → Int32} {len : Nat} {Rd : DT} (H : LIV K T n mo ver S h P Tr Rg co len Rd) (h8 : PCI T n mo ver P' ∧ TCI T n mo ver Tr' ∧ RCI T n ver Rg') : LIV K T n mo ver S h P' Tr' Rg' co len Rd := by
  obtain ⟨h1, h2, h3, h4, h5, h6, h7, -, h9, h10⟩ := H
  exact ⟨h1, h2, h3, h4, h5, h6, h7, h8, h9, h10⟩
def vaV (T : Nat → Int32) (n mo x : Nat) : Int32 := match lb T x mo (-1) n with
  | none => -20000
  | some g => pVal T g x
/-- behind a step of one of the law's helpers -/
def STP (K h : Nat) (P : PT) (Tr : TT) (Rg : RT) (co : Nat → Int32) (len : Nat) (Rd : DT) (r : Int32) (u : LT × HT) : Prop :=
  (∃ (T : Nat → Int32) (n mo ver : Nat) (S : Nat → Int32) (h' : Nat), u.1 = (T, n, mo, ver) ∧ u.2 = (S, h') ∧ LIV (K + 1) T n mo ver S h' P Tr Rg co len Rd) ∧ (r = -10003 → u.2.2 = h)
abbrev AU : Type := LT × HT × PT × TT × RT
def ACP (K h : Nat) (co : Nat → Int32) (len : Nat) (Rd : DT) (r : Int32) (u : AU) : Prop :=
  (∃ (T : Nat → Int32) (n mo ver : Nat) (S : Nat → Int32) (h' : Nat), u.1 = (T, n, mo, ver) ∧ u.2.1 = (S, h') ∧ LIV (K + 1) T n mo ver S h' u.2.2.1 u.2.2.2.1 u.2.2.2.2 co len Rd) ∧ (r = -10003 → u.2.1.2 = h)
section ACPS
variable {K : Nat} {T : Nat → Int32} {n mo ver : Nat} {S : Nat → Int32} {h h0 : Nat} {P : PT} {Tr : TT} {Rg : RT} {co : Nat → Int32} {len : Nat} {Rd : DT} {r : Int32} {x y l : Nat}
theorem stp_mk (H : LIV (K + 1) T n mo ver S h P Tr Rg co len Rd) (hr : ¬ r = -10003) : STP K h0 P Tr Rg co len Rd r ((T, n, mo, ver), (S, h)) := ⟨⟨_, _, _, _, _, _, rfl, rfl, H⟩, fun q => absurd q hr⟩
theorem stp_same (H : LIV K T n mo ver S h P Tr Rg co len Rd) (hK : K < 512) : STP K h P Tr Rg co len Rd r ((T, n, mo, ver), (S, h)) := ⟨⟨_, _, _, _, _, _, rfl, rfl, H.same hK⟩, fun _ => rfl⟩
theorem acp_of {u : LT × HT} (H : STP K h P Tr Rg co len Rd r u) : ACP K h co len Rd r (u.1, u.2, P, Tr, Rg) := H
theorem acp_mk (H : LIV (K + 1) T n mo ver S h P Tr Rg co len Rd) (hr : ¬ r = -10003) : ACP K h0 co len Rd r ((T, n, mo, ver), (S, h), P, Tr, Rg) := ⟨⟨_, _, _, _, _, _, rfl, rfl, H⟩, fun q => absurd q hr⟩
theorem acp_same (H : LIV K T n mo ver S h P Tr Rg co len Rd) (hK : K < 512) : ACP K h co len Rd r ((T, n, mo, ver), (S, h), P, Tr, Rg) := ⟨⟨_, _, _, _, _, _, rfl, rfl, H.same hK⟩, fun _ => rfl⟩
theorem m3_int : (-10003 : Int32).toInt = -10003 := by decide
theorem nI_ne3 {k : Nat} (h : k < 2 ^ 31) : ¬ nI k = (-10003 : Int32) := fun q => by
  have q2 := congrArg Int32.toInt q
  rw [nI_toInt h, m3_int] at q2; omega
theorem of_ne3 {v : Int32} (h : ofB v = true) : ¬ v = (-10003 : Int32) := fun q => by
  have := ofB_int h
  rw [q, m3_int] at this; omega
theorem lift_ne {line by_ : Int32} (hc : xLift T n line by_ = 0) : ¬ T (line.toNatClampNeg * 6 + 1) + by_ = -10003 := by
  unfold xLift at hc
  repeat' split at hc
  all_goals first | exact absurd hc (by decide) | skip
  rename_i a1 a2 a3
  exact of_ne3 (by simpa using a3)
theorem turn_ne {line pl sl : Int32} (hc : xTurn T n line pl sl = 0) : ¬ tuV T line pl sl = -10003 := by
  unfold xTurn at hc
  repeat' split at hc
  all_goals first | exact absurd hc (by decide) | skip
  rename_i a1 a2 a3 a4
  exact of_ne3 (by simpa using a4)
theorem spn_ne (hn : n ≤ 20) (hT : TOK T n) (hl : l < n) : ¬ T ((nI l).toNatClampNeg * 6 + 3) - T ((nI l).toNatClampNeg * 6 + 2) + nI 1 = -10003 := by
  obtain ⟨-, -, ⟨a, b, e1, e2, h1, h2⟩, -⟩ := hT l hl
  rw [nI_clamp (show l < 2 ^ 31 by omega), e1, e2, pk_sub h1, nI_add]
  exact nI_ne3 (by omega)
theorem liv_ne (hn : n ≤ 20) (hT : TOK T n) (hl : l < n) : ¬ T ((nI l).toNatClampNeg * 6 + 5) - T ((nI l).toNatClampNeg * 6 + 4) + nI 1 = -10003 := by
  obtain ⟨-, -, -, a, b, e1, e2, h1, h2⟩ := hT l hl
  rw [nI_clamp (show l < 2 ^ 31 by omega), e1, e2, pk_sub h1, nI_add]
  exact nI_ne3 (by omega)
theorem self_ne {v : Int32} : ¬ v - v = (-10003 : Int32) := by
  rw [Int32.sub_self]; decide
theorem hasB_y (hl : l < n) (hn : n ≤ 20) : hasB n (nI l) = true := by
  have h1 : (0 : Int32) ≤ nI l := nI_pos' (by omega)
  have h2 : nI l < nI n := nI_lt hl (by omega)
  simp [hasB, h1, h2]
theorem xStr_ok {e : Nat} (hn : n ≤ 20) (hl : l < n) (h1 : x ≤ y) (h2 : y < e) (he : e < 2147483648) : xStr n (nI l) (nI x) (nI y) (nI e) = 0 := by
  simp [xStr, hasB_y hl hn, stB_t h1 h2 he]
theorem in_int {v : Int32} {a b : Int} (lo hi : Int32) (e1 : lo.toInt = a) (e2 : hi.toInt = b) (h1 : a ≤ v.toInt) (h2 : v.toInt ≤ b) : inB v lo hi = true := by
  have g1 : ¬ v < lo := by rw [Int32.lt_iff_toInt_lt]; omega
  have g2 : ¬ hi < v := by rw [Int32.lt_iff_toInt_lt]; omega
  simp [inB, g1, g2]
theorem slB_41 {j : Nat} (h : j < 41) : slB (nI j - nI 20) = true := by
  have e := pk_sub_toInt (a := j) (b := 20) (by omega) (by decide)
  exact in_int (-99) (nI 99) (a := -99) (b := 99) (by decide) (by decide) (by omega) (by omega)
theorem ofB_41 {j : Nat} (h : j < 41) : ofB (nI j - nI 20) = true := by
  have e := pk_sub_toInt (a := j) (b := 20) (by omega) (by decide)
  exact in_int (-9999) (nI 9999) (a := -9999) (b := 9999) (by decide) (by decide) (by omega) (by omega)
theorem ofB_600 {j : Nat} (h : j < 600) : ofB (nI j - nI 300) = true := by
  have e := pk_sub_toInt (a := j) (b := 300) (by omega) (by decide)
  exact in_int (-9999) (nI 9999) (a := -9999) (b := 9999) (by decide) (by decide) (by omega) (by omega)
theorem xGo_ok (h : x < 100) : xGo (nI x) = 0 := by simp [xGo, moB_t h]
theorem xRem_ok (hn : n ≤ 20) (hl : l < n) : xRem n (nI l) = 0 := by simp [xRem, hasB_y hl hn]
theorem xAdd_ok {sl off : Int32} (h1 : slB sl = true) (h2 : ofB off = true) : ¬ xAdd n sl off = 1 := by
  unfold xAdd; rw [if_neg (by simp [h1]), if_neg (by simp [h2])]; split <;> decide
theorem xLift_ok {by_ : Int32} (hn : n ≤ 20) (hl : l < n) (h2 : ofB by_ = true) : ¬ xLift T n (nI l) by_ = 1 ∧ ¬ xLift T n (nI l) by_ = 2 := by
  unfold xLift; rw [if_neg (by simp [hasB_y hl hn]), if_neg (by simp [h2])]; split <;> decide
theorem xTurn_ok {sl : Int32} (hn : n ≤ 20) (hl : l < n) (hx : x < 64) (h2 : slB sl = true) : ¬ xTurn T n (nI l) (nI x) sl = 1 ∧ ¬ xTurn T n (nI l) (nI x) sl = 2 := by
  unfold xTurn; rw [if_neg (by simp [hasB_y hl hn]), if_neg (by simp [plB_t hx]), if_neg (by simp [h2])]; split <;> decide
theorem xVal_ok (hx : x < 64) : ¬ xVal T n mo (nI x) = 1 := by
  unfold xVal; rw [if_neg (by simp [plB_t hx])]; split <;> decide
theorem lvc_b : ∀ m, lvc T mo m ≤ m
  | 0 => Nat.le_refl _
  | m + 1 => by have := lvc_b m; rw [lvc]; split <;> omega
theorem plo_lb (hn : n ≤ 20) (h : plo T n mo x = plo T n mo y) : lb T x mo (-1) n = lb T y mo (-1) n := by
  cases h1 : lb T x mo (-1) n with
  | none =>
    cases h2 : lb T y mo (-1) n with
    | none => rfl
    | some g =>
      have := lb_lt _ _ _ _ _ _ h2
      rw [plo_n h1, plo_s h2] at h
      exact absurd h.symm (nI_neO (by omega))
  | some g =>
    have g1 := lb_lt _ _ _ _ _ _ h1
    rw [plo_s h1] at h
    exact ((plo_eq hn g1).mp h.symm).symm
theorem rkV_1n (hn : n ≤ 20) (h : lb T x mo (-1) n = none) : rkV T n mo x 1 = -1 := (rkV_1 (T := T) (x := x) (mo := mo) hn).elim id (fun ⟨_, _, _, _, h2, _⟩ => by rw [h] at h2; cases h2)
end ACPS
