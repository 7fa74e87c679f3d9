/-! the mean, the digest -/
theorem v_topd {p : Program} {l : Launch} {e : Env} {R : Room} {s : State} {m : MethodId} {args : Array Value} {below : List Frame} {meth : Method} {c : Code} {nL : Nat} {G : GT} {A : Nat → Prop} {Q : State → Prop} {w : va_W} {kc ks pc : Nat} {lv : List (Nat × Value)} {st : List Value} {x : UInt64} (y : UInt64) (h : x = y) (k : V p l e R s m args below meth c nL G A Q w kc ks pc lv (.double y :: st)) : V p l e R s m args below meth c nL G A Q w kc ks pc lv (.double x :: st) := h ▸ k
theorem plc_le (T : Nat → Int32) (n mo : Nat) (ln : Int32) : ∀ x, plc T n mo ln x ≤ x
  | 0 => Nat.le_refl _
  | x + 1 => by have := plc_le T n mo ln x; unfold plc; split <;> omega
def meanV (T : Nat → Int32) (n mo : Nat) : UInt64 := if 64 - plc T n mo (-1) 64 = 0 then FP.dconst0 else FP.ddiv (FP.i2d (sm T n mo 0 64)) (FP.i2d (nI (64 - plc T n mo (-1) 64)))
def nzD (v : UInt64) : Prop := v = FP.dconst0 ∨ ∃ (b : Bool) (x y : Nat), 900 ≤ x ∧ x ≤ 1100 ∧ y < 2 ^ 52 ∧ v.toNat = (b.toNat * 2048 + x) * 2 ^ 52 + y
theorem mean_nn (T : Nat → Int32) (n mo : Nat) (h : ¬ 64 - plc T n mo (-1) 64 = 0) : vf_n64 (FP.ddiv (FP.i2d (sm T n mo 0 64)) (FP.i2d (nI (64 - plc T n mo (-1) 64)))) := by sorry
theorem mean_nz (T : Nat → Int32) (n mo : Nat) : nzD (meanV T n mo) := by sorry
theorem m_X7_bitsOf (lau : Launch) (G : GT) (v : UInt64) (hv : nzD v) : ML lau G 0 yX7_bitsOf cX7_bitsOf 10 (some .long) [.double v] ([]) (fun u : Unit => []) (fun r u => r = v.toInt64) := by sorry
def mxN (f : Nat → Int32) (a : Int64) : Nat → Int64
  | 0 => a
  | k + 1 => 31 * mxN f a k + (f k).toInt64
def dLi (T : Nat → Int32) (n mo : Nat) (a : Int64) : Nat → Int64
  | 0 => a
  | l + 1 => if l = 0 then 31 * mxN (linV T n mo l) (dLi T n mo a l) 9 + (woV T n mo l).toInt64 else 31 * (31 * mxN (linV T n mo l) (dLi T n mo a l) 9 + (woV T n mo l).toInt64) + (meV T l 0).toInt64
def dTr (T : Nat → Int32) (n mo : Nat) (a : Int64) : Nat → Int64
  | 0 => a
  | k + 1 => if kp T n mo (k + 1) = -1 then dTr T n mo a k else mxN (ndV T n mo (k + 1)) (31 * dTr T n mo a k + (nI (k + 1)).toInt64) 5
def dRo (T : Nat → Int32) (n mo : Nat) (a : Int64) : Nat → Int64
  | 0 => a
  | r + 1 => mxN (rowV T n mo r) (dRo T n mo a r) 3
def dPl (T : Nat → Int32) (n mo : Nat) (a : Int64) : Nat → Int64
  | 0 => a
  | k + 1 => 31 * (31 * (31 * dPl T n mo a k + (oI (lb T (21 * k) 50 (-1) n)).toInt64) + (rkV T n mo (21 * k) 1).toInt64) + (chA T n mo (21 * k)).toInt64
def dPs (T : Nat → Int32) (n mo : Nat) (a : Int64) : Int64 := dPl T n mo (31 * dRo T n mo a (rc T n mo 64) + (sm T n mo 0 64).toInt64) 4
def dgV (T : Nat → Int32) (n mo h : Nat) (co : Nat → Int32) (len : Nat) : Int64 :=
  mxN co (31 * (31 * (31 * (31 * dPs T n mo (dTr T n mo (dLi T n mo (mxN (cntV T n mo h) 2591 9) n) 127) + (nI (ifa T n mo (nI 0) (nI 0) 64)).toInt64) + (hiC T n mo (nI 1)).toInt64) + (meanV T n mo).toInt64) + (nI len).toInt64) len
theorem dLi_0 {T : Nat → Int32} {n mo l : Nat} {a : Int64} (h : l = 0) : 31 * mxN (linV T n mo l) (dLi T n mo a l) 9 + (woV T n mo l).toInt64 = dLi T n mo a (l + 1) := by rw [dLi, if_pos h]
theorem dLi_1 {T : Nat → Int32} {n mo l : Nat} {a : Int64} (h : ¬ l = 0) : 31 * (31 * mxN (linV T n mo l) (dLi T n mo a l) 9 + (woV T n mo l).toInt64) + (meV T l 0).toInt64 = dLi T n mo a (l + 1) := by rw [dLi, if_neg h]
theorem dTr_0 {T : Nat → Int32} {n mo k : Nat} {a : Int64} (h : kp T n mo (k + 1) = -1) : dTr T n mo a k = dTr T n mo a (k + 1) := by rw [dTr, if_pos h]
theorem dTr_1 {T : Nat → Int32} {n mo k : Nat} {a : Int64} (h : ¬ kp T n mo (k + 1) = -1) : mxN (ndV T n mo (k + 1)) (31 * dTr T n mo a k + (nI (k + 1)).toInt64) 5 = dTr T n mo a (k + 1) := by rw [dTr, if_neg h]
