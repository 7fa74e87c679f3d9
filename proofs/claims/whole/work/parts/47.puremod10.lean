/-! a double's bits, by the machine's own word; the model's digest -/
abbrev rawN : MethodName := ⟨"java/lang/Double", "doubleToRawLongBits", "(D)J"⟩
theorem wM_RJxe99ae_134 : Cond.methodLink RJxe99ae 134 rawN ∈ GW := tk6 (i := 22) (by decide +kernel) (by decide +kernel)
theorem wSt_rawN : Cond.static rawN ∈ GW := tk6 (i := 23) (by decide +kernel) (by decide +kernel)
theorem wNa_rawN : Cond.native rawN ∈ GW := tk6 (i := 24) (by decide +kernel) (by decide +kernel)
theorem v_rawBits {p : Program} {l : Launch} {e : Env} {R : Room} {s : State} {m : MethodId} {args : Array Value} {below : List Frame} {meth : Method} {c : Code} {cc : ByteArray} {own : String} {nL d : Nat} {G : GT} {A : Nat → Prop} {Q : State → Prop} {w : va_W} {kc ks pc : Nat} {lv : List (Nat × Value)} {st : List Value} (F : FX p R s m args c cc own nL d G A) {index : Nat} {b : UInt64} (hlink : Cond.methodLink own index rawN ∈ GW) (hd : decode cc pc = .ok (.invokestatic index, 3)) (hl1 : 1 ≤ R.frames) (hl2 : (st.map fun v => v.category).sum + 15 ≤ R.locals) (k : V p l e R s m args below meth c nL G A Q w kc ks (pc + 3) lv (.long b.toInt64 :: st)) : V p l e R s m args below meth c nL G A Q w kc ks pc lv (.double b :: st) :=
  fun H locs ls hP hD hS hl => vn_d2l F.1 F.2.1 (by rw [F.2.2.1]; exact hl.1.symm) F.2.2.2.1 (F.2.2.2.2.1 _ hlink) (F.2.2.2.2.1 _ wNa_rawN) (F.2.2.2.2.1 _ wSt_rawN) (F.2.2.2.2.1 _ wI_RJxe99ae) hl1 hl2 hd (k H locs ls hP hD hS hl)
theorem nzD_cmp {v : UInt64} (h : nzD v) : Op.cmpValue (FP.dcmp v v) .l = 0 := by
  have hn : FP.Core.val64 v ≠ .nan := nzD_nn h
  show Op.cmpValue (FP.Core.dcmp v v) .l = 0
  rw [FP.Core.dcmp_self hn]; rfl
theorem mxN_0 (f : Nat → Int32) (a : Int64) : mxN f a 0 = a := rfl
theorem mxN_s (f : Nat → Int32) (a : Int64) (k : Nat) : 31 * mxN f a k + (f k).toInt64 = mxN f a (k + 1) := rfl
theorem dRo_s (T : Nat → Int32) (n mo r : Nat) (a : Int64) : mxN (rowV T n mo r) (dRo T n mo a r) 3 = dRo T n mo a (r + 1) := rfl
theorem dRo_z (T : Nat → Int32) (n mo : Nat) (a : Int64) : dRo T n mo a 0 = a := rfl
theorem dTr_z (T : Nat → Int32) (n mo : Nat) (a : Int64) : dTr T n mo a 0 = a := rfl
theorem dLi_z (T : Nat → Int32) (n mo : Nat) (a : Int64) : dLi T n mo a 0 = a := rfl
theorem dPl_z (T : Nat → Int32) (n mo : Nat) (a : Int64) : dPl T n mo a 0 = a := rfl
theorem dPl_s (T : Nat → Int32) (n mo k : Nat) (a : Int64) : 31 * (31 * (31 * dPl T n mo a k + (oI (lb T (21 * k) 50 (-1) n)).toInt64) + (rkV T n mo (21 * k) 1).toInt64) + (chA T n mo (21 * k)).toInt64 = dPl T n mo a (k + 1) := rfl
theorem dPs_e (T : Nat → Int32) (n mo : Nat) (a : Int64) : dPl T n mo (31 * dRo T n mo a (rc T n mo 64) + (sm T n mo 0 64).toInt64) 4 = dPs T n mo a := rfl
theorem dLi_a {T : Nat → Int32} {n mo l : Nat} {a b : Int64} (hb : b = mxN (linV T n mo l) (dLi T n mo a l) 9) (h : l ≤ 0) : 31 * b + (woV T n mo l).toInt64 = dLi T n mo a (l + 1) := by rw [hb]; exact dLi_0 (by omega)
theorem dLi_b {T : Nat → Int32} {n mo l : Nat} {a b : Int64} (hb : b = mxN (linV T n mo l) (dLi T n mo a l) 9) (h : 0 < l) : 31 * (31 * b + (woV T n mo l).toInt64) + (meV T l 0).toInt64 = dLi T n mo a (l + 1) := by rw [hb]; exact dLi_1 (by omega)
theorem dTr_b {T : Nat → Int32} {n mo k : Nat} {a b : Int64} (hb : b = dTr T n mo a k) (h : ¬ kp T n mo (k + 1) = -1) : 31 * (31 * (31 * (31 * (31 * (31 * b + (nI (k + 1)).toInt64) + (kp T n mo (k + 1)).toInt64) + (nI (gF (k + 1))).toInt64) + (nI (gL (k + 1))).toInt64) + (nI (mdO (k + 1))).toInt64) + (stp T n mo (k + 1)).toInt64 = dTr T n mo a (k + 1) := by
  rw [← dTr_1 h, hb]
  simp only [mxN, ndV, if_true, if_false, Nat.one_ne_zero, Nat.reduceEqDiff, mdO]
