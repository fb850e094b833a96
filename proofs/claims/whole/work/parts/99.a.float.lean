/-! ===== floats: no NaN comes about where a number is divided by one that is not 0 ===== -/
def G32 : FP.Core.Datum → Prop
  | .nan => False
  | .inf _ => True
  | .fin _ c q => c < 16777216 ∧ q ≤ 104
def G64 : FP.Core.Datum → Prop
  | .nan => False
  | .inf _ => True
  | .fin _ c q => c < 9007199254740992 ∧ q ≤ 971
theorem f32_t : FP.Core.b32.tails = 8388608 := by decide
theorem f32_e : FP.Core.b32.exps = 256 := by decide
theorem f32_q : FP.Core.b32.qmin = -149 := by decide
theorem f32_m : FP.Core.b32.qmax = 104 := by decide
theorem f32_p : (2 : Nat) ^ FP.Core.b32.p = 16777216 := by decide
theorem f64_t : FP.Core.b64.tails = 4503599627370496 := by decide
theorem f64_e : FP.Core.b64.exps = 2048 := by decide
theorem f64_q : FP.Core.b64.qmin = -1074 := by decide
theorem f64_m : FP.Core.b64.qmax = 971 := by decide
theorem f64_p : (2 : Nat) ^ FP.Core.b64.p = 9007199254740992 := by decide
theorem settle32 (s : Bool) (c : Nat) (q : Int) : G32 (FP.Core.settle FP.Core.b32 s c q) := by
  unfold FP.Core.settle FP.Core.bound
  rw [f32_p, f32_m, f32_t]
  by_cases h : c < 16777216
  · rw [if_pos h]
    by_cases h2 : q ≤ 104
    · rw [if_pos h2]; exact ⟨h, h2⟩
    · rw [if_neg h2]; trivial
  · rw [if_neg h]
    by_cases h2 : q + 1 ≤ 104
    · rw [if_pos h2]; exact ⟨by decide, h2⟩
    · rw [if_neg h2]; trivial
theorem settle64 (s : Bool) (c : Nat) (q : Int) : G64 (FP.Core.settle FP.Core.b64 s c q) := by
  unfold FP.Core.settle FP.Core.bound
  rw [f64_p, f64_m, f64_t]
  by_cases h : c < 9007199254740992
  · rw [if_pos h]
    by_cases h2 : q ≤ 971
    · rw [if_pos h2]; exact ⟨h, h2⟩
    · rw [if_neg h2]; trivial
  · rw [if_neg h]
    by_cases h2 : q + 1 ≤ 971
    · rw [if_pos h2]; exact ⟨by decide, h2⟩
    · rw [if_neg h2]; trivial
theorem ratio32 (s : Bool) (num den : Nat) (e : Int) : G32 (FP.Core.roundRatio FP.Core.b32 s num den e) := by
  unfold FP.Core.roundRatio FP.Core.roundAt
  by_cases h : num = 0
  · rw [if_pos h, f32_q]; exact ⟨by decide, by decide⟩
  · rw [if_neg h]; exact settle32 _ _ _
theorem ratio64 (s : Bool) (num den : Nat) (e : Int) : G64 (FP.Core.roundRatio FP.Core.b64 s num den e) := by
  unfold FP.Core.roundRatio FP.Core.roundAt
  by_cases h : num = 0
  · rw [if_pos h, f64_q]; exact ⟨by decide, by decide⟩
  · rw [if_neg h]; exact settle64 _ _ _
theorem enc32 {d : FP.Core.Datum} (h : G32 d) : FP.Core.encode FP.Core.b32 d < 4294967296 ∧ FP.Core.encode FP.Core.b32 d % 2147483648 ≤ 2139095040 := by
  cases d with
  | nan => exact h.elim
  | inf s =>
    simp only [FP.Core.encode, FP.Core.assemble, f32_t, f32_e]
    cases s <;> decide
  | fin s c q =>
    obtain ⟨h1, h2⟩ := h
    have hs : s.toNat ≤ 1 := by cases s <;> decide
    simp only [FP.Core.encode, FP.Core.assemble, f32_t, f32_e, f32_q]
    by_cases h3 : c < 8388608
    · rw [if_pos h3]; omega
    · rw [if_neg h3]; omega
theorem enc64 {d : FP.Core.Datum} (h : G64 d) : FP.Core.encode FP.Core.b64 d < 18446744073709551616 ∧ FP.Core.encode FP.Core.b64 d % 9223372036854775808 ≤ 9218868437227405312 := by
  cases d with
  | nan => exact h.elim
  | inf s =>
    simp only [FP.Core.encode, FP.Core.assemble, f64_t, f64_e]
    cases s <;> decide
  | fin s c q =>
    obtain ⟨h1, h2⟩ := h
    have hs : s.toNat ≤ 1 := by cases s <;> decide
    simp only [FP.Core.encode, FP.Core.assemble, f64_t, f64_e, f64_q]
    by_cases h3 : c < 4503599627370496
    · rw [if_pos h3]; omega
    · rw [if_neg h3]; omega
theorem of32_nat {n : Nat} (h : n < 4294967296) : (UInt32.ofNat n).toNat = n := by
  rw [UInt32.toNat_ofNat']
  exact Nat.mod_eq_of_lt h
theorem of64_nat {n : Nat} (h : n < 18446744073709551616) : (UInt64.ofNat n).toNat = n := by
  rw [UInt64.toNat_ofNat']
  exact Nat.mod_eq_of_lt h
theorem n32_of {n : Nat} (h : n < 4294967296) (h2 : n % 2147483648 ≤ 2139095040) : vf_n32 (UInt32.ofNat n) := by
  unfold vf_n32
  rw [UInt32.le_iff_toNat_le, UInt32.toNat_and, of32_nat h]
  have e1 : (0x7fffffff : UInt32).toNat = 2 ^ 31 - 1 := by decide
  have e2 : (0x7f800000 : UInt32).toNat = 2139095040 := by decide
  rw [e1, e2, Nat.and_two_pow_sub_one_eq_mod]
  exact h2
theorem n64_of {n : Nat} (h : n < 18446744073709551616) (h2 : n % 9223372036854775808 ≤ 9218868437227405312) : vf_n64 (UInt64.ofNat n) := by
  unfold vf_n64
  rw [UInt64.le_iff_toNat_le, UInt64.toNat_and, of64_nat h]
  have e1 : (0x7fffffffffffffff : UInt64).toNat = 2 ^ 63 - 1 := by decide
  have e2 : (0x7ff0000000000000 : UInt64).toNat = 9218868437227405312 := by decide
  rw [e1, e2, Nat.and_two_pow_sub_one_eq_mod]
  exact h2
theorem dec32 {n : Nat} (h2 : n % 2147483648 ≤ 2139095040) : FP.Core.decode FP.Core.b32 n ≠ .nan := by
  intro h
  unfold FP.Core.decode FP.Core.fieldE FP.Core.fieldT at h
  rw [f32_t, f32_e] at h
  by_cases a : n / 8388608 % 256 = 256 - 1
  · rw [if_pos a] at h
    by_cases b : n % 8388608 = 0
    · rw [if_pos b] at h; cases h
    · omega
  · rw [if_neg a] at h
    by_cases b : n / 8388608 % 256 = 0
    · rw [if_pos b] at h; cases h
    · rw [if_neg b] at h; cases h
theorem dec64 {n : Nat} (h2 : n % 9223372036854775808 ≤ 9218868437227405312) : FP.Core.decode FP.Core.b64 n ≠ .nan := by
  intro h
  unfold FP.Core.decode FP.Core.fieldE FP.Core.fieldT at h
  rw [f64_t, f64_e] at h
  by_cases a : n / 4503599627370496 % 2048 = 2048 - 1
  · rw [if_pos a] at h
    by_cases b : n % 4503599627370496 = 0
    · rw [if_pos b] at h; cases h
    · omega
  · rw [if_neg a] at h
    by_cases b : n / 4503599627370496 % 2048 = 0
    · rw [if_pos b] at h; cases h
    · rw [if_neg b] at h; cases h
theorem quot32 {a : FP.Core.Datum} (ha : a ≠ .nan) {t : Bool} {d : Nat} {r : Int} (hd : d ≠ 0) : G32 (FP.Core.quotient FP.Core.b32 a (.fin t d r)) := by
  cases a with
  | nan => exact absurd rfl ha
  | inf s => trivial
  | fin s c q =>
    simp only [FP.Core.quotient]
    rw [if_neg hd]
    exact ratio32 _ _ _ _
/-- a whole number as a float -/
theorem i2f_dec (x : Int32) : FP.Core.decode FP.Core.b32 (FP.i2f x).toNat ≠ .nan := by
  have g : G32 (FP.Core.round FP.Core.b32 (FP.Core.ofInt x.toInt)) := ratio32 _ _ _ _
  have e := enc32 g
  show FP.Core.decode FP.Core.b32 (UInt32.ofNat (FP.Core.encode FP.Core.b32 (FP.Core.round FP.Core.b32 (FP.Core.ofInt x.toInt)))).toNat ≠ .nan
  rw [of32_nat e.1]
  exact dec32 e.2
def chkI (k : Nat) : Bool := match FP.Core.decode FP.Core.b32 (FP.i2f (iI ((k : Int) + 1))).toNat with
  | .fin _ d _ => d != 0
  | _ => false
theorem chk512 : (List.range 512).all chkI = true := by decide +kernel
/-- the mean of n numbers with the sum S -/
def mf (S n : Int) : UInt32 := if n = 0 then FP.fconst0 else FP.fdiv (FP.i2f (iI S)) (FP.i2f (iI n))
theorem mf_div (S : Int) {n : Int} (h1 : 1 ≤ n) (h2 : n ≤ 512) : vf_n32 (FP.fdiv (FP.i2f (iI S)) (FP.i2f (iI n))) ∧ FP.Core.decode FP.Core.b32 (FP.fdiv (FP.i2f (iI S)) (FP.i2f (iI n))).toNat ≠ .nan := by
  have hc : chkI (n - 1).toNat = true := List.all_eq_true.mp chk512 _ (List.mem_range.mpr (by omega))
  unfold chkI at hc
  rw [show (((n - 1).toNat : Nat) : Int) + 1 = n by omega] at hc
  have hS := i2f_dec (iI S)
  have g : G32 (FP.Core.quotient FP.Core.b32 (FP.Core.decode FP.Core.b32 (FP.i2f (iI S)).toNat) (FP.Core.decode FP.Core.b32 (FP.i2f (iI n)).toNat)) := by
    revert hc
    generalize FP.Core.decode FP.Core.b32 (FP.i2f (iI n)).toNat = D
    intro hc
    cases D with
    | nan => cases hc
    | inf s => cases hc
    | fin t d r => exact quot32 hS (by simpa using hc)
  have e := enc32 g
  have ed : FP.fdiv (FP.i2f (iI S)) (FP.i2f (iI n)) = UInt32.ofNat (FP.Core.encode FP.Core.b32 (FP.Core.quotient FP.Core.b32 (FP.Core.decode FP.Core.b32 (FP.i2f (iI S)).toNat) (FP.Core.decode FP.Core.b32 (FP.i2f (iI n)).toNat))) := rfl
  rw [ed]
  refine ⟨n32_of e.1 e.2, ?_⟩
  rw [of32_nat e.1]
  exact dec32 e.2
theorem mf_dec (S : Int) {n : Int} (h1 : 0 ≤ n) (h2 : n ≤ 512) : FP.Core.decode FP.Core.b32 (mf S n).toNat ≠ .nan := by
  unfold mf
  by_cases h : n = 0
  · rw [if_pos h]
    have e : (FP.fconst0).toNat = 0 := by decide
    rw [e]
    exact dec32 (by decide)
  · rw [if_neg h]
    exact (mf_div S (by omega) h2).2
/-- as a double -/
theorem f2d_ok {x : UInt32} (h : FP.Core.decode FP.Core.b32 x.toNat ≠ .nan) : vf_n64 (FP.f2d x) ∧ FP.dcmp (FP.f2d x) (FP.f2d x) = some .eq := by
  have hn : FP.Core.fIsNaN x = false := decide_eq_false h
  have e0 : FP.f2d x = UInt64.ofNat (FP.Core.encode FP.Core.b64 (FP.Core.round FP.Core.b64 (FP.Core.decode FP.Core.b32 x.toNat))) := by
    unfold FP.f2d
    rw [hn]
    rfl
  have g : G64 (FP.Core.round FP.Core.b64 (FP.Core.decode FP.Core.b32 x.toNat)) := by
    revert h
    generalize FP.Core.decode FP.Core.b32 x.toNat = D
    intro h
    cases D with
    | nan => exact absurd rfl h
    | inf s => trivial
    | fin s c q => exact ratio64 _ _ _ _
  have e := enc64 g
  rw [e0]
  refine ⟨n64_of e.1 e.2, ?_⟩
  show FP.Core.order (FP.Core.decode FP.Core.b64 (UInt64.ofNat _).toNat) (FP.Core.decode FP.Core.b64 (UInt64.ofNat _).toNat) = some .eq
  rw [of64_nat e.1]
  have hd := dec64 e.2
  revert hd
  generalize FP.Core.decode FP.Core.b64 (FP.Core.encode FP.Core.b64 (FP.Core.round FP.Core.b64 (FP.Core.decode FP.Core.b32 x.toNat))) = D
  intro hd
  have cs : ∀ a : Int, compare a a = Ordering.eq := fun a => by
    show compareOfLessAndEq a a = Ordering.eq
    unfold compareOfLessAndEq
    rw [if_neg (Int.lt_irrefl a), if_pos rfl]
  cases D with
  | nan => exact absurd rfl hd
  | inf s => simp only [FP.Core.order, cs]
  | fin s c q => simp only [FP.Core.order, cs]
theorem l2f_same {x : Int} (h : inR x) : FP.l2f (Int64.ofInt x) = FP.i2f (iI x) := by
  show UInt32.ofNat (FP.Core.fromInt FP.Core.b32 (Int64.ofInt x).toInt) = UInt32.ofNat (FP.Core.fromInt FP.Core.b32 (iI x).toInt)
  rw [iI_toInt h, Int64.toInt_ofInt_of_le (by have := h.1; omega) (by have := h.2; omega)]
