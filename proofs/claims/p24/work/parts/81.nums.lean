/-! Bits of numbers; the law's packed ints. -/
theorem bq_nI {N i : Nat} (hi : i < 32) : bq (nI N) i = N.testBit i := by
  show (BitVec.ofNat 32 N).getLsbD i = _
  rw [BitVec.getLsbD_ofNat]; simp [hi]
theorem nI_and (N M : Nat) : nI N &&& nI M = nI (N &&& M) := bq_ext (fun i hi => by rw [bq_and, bq_nI hi, bq_nI hi, bq_nI hi, Nat.testBit_and])
theorem nI_or (N M : Nat) : nI N ||| nI M = nI (N ||| M) := bq_ext (fun i hi => by rw [bq_or, bq_nI hi, bq_nI hi, bq_nI hi, Nat.testBit_or])
theorem nI_mask (N k : Nat) : nI N &&& nI (2 ^ k - 1) = nI (N % 2 ^ k) := by
  rw [nI_and, Nat.and_two_pow_sub_one_eq_mod]
theorem nI_shr {N k : Nat} (hN : N < 2 ^ 31) (hk : k < 32) : nI N >>> (nI k &&& 31) = nI (N / 2 ^ k) := by
  refine Int32.toInt_inj.mp ?_
  have h1 : (nI N >>> (nI k &&& 31)).toInt = (nI N).toInt >>> k := by
    show (nI N >>> (nI k &&& 31)).toBitVec.toInt = (nI N).toBitVec.toInt >>> k
    rw [Int32.toBitVec_shiftRight, BitVec.sshiftRight', bq_smod k hk, BitVec.toInt_sshiftRight]
  have h2 : N / 2 ^ k < 2 ^ 31 := Nat.lt_of_le_of_lt (Nat.div_le_self _ _) hN
  rw [h1, nI_toInt hN, nI_toInt h2, Int.shiftRight_eq_div_pow]
  first | rfl | exact (Int.natCast_ediv _ _).symm | norm_cast
/-- what stands in an int from the bit k on, j bits long -/
theorem fldG {N : Nat} (k j : Nat) (hN : N < 2 ^ 31) (hk : k < 32) : (nI N >>> (nI k &&& 31)) &&& nI (2 ^ j - 1) = nI (N / 2 ^ k % 2 ^ j) := by
  rw [nI_shr hN hk, nI_mask]
theorem fld_sub {N : Nat} : nI N &&& 1 = nI (N % 2) := nI_mask N 1
theorem fld_node {N : Nat} (hN : N < 2 ^ 31) : (nI N >>> (1 &&& 31)) &&& 15 = nI (N / 2 % 16) := fldG 1 4 hN (by decide)
theorem fld_every {N : Nat} (hN : N < 2 ^ 31) : (nI N >>> (5 &&& 31)) &&& 31 = nI (N / 32 % 32) := fldG 5 5 hN (by decide)
theorem fld_size {N : Nat} (hN : N < 2 ^ 31) : (nI N >>> (10 &&& 31)) &&& 7 = nI (N / 1024 % 8) := fldG 10 3 hN (by decide)
theorem fld_drops {N : Nat} (hN : N < 2 ^ 31) : (nI N >>> (13 &&& 31)) &&& 1 = nI (N / 8192 % 2) := fldG 13 1 hN (by decide)
theorem fld_rep {N : Nat} (hN : N < 2 ^ 31) : (nI N >>> (14 &&& 31)) &&& 1 = nI (N / 16384 % 2) := fldG 14 1 hN (by decide)
theorem fld_band {N : Nat} (hN : N < 2 ^ 31) : nI N >>> (15 &&& 31) = nI (N / 32768) := nI_shr (k := 15) hN (by decide)
theorem fld_num {N : Nat} : nI N &&& 8191 = nI (N % 8192) := nI_mask N 13
theorem fld_many {N : Nat} (hN : N < 2 ^ 31) : nI N >>> (13 &&& 31) = nI (N / 8192) := nI_shr (k := 13) hN (by decide)
theorem fld_val {N : Nat} (hN : N < 2 ^ 31) : nI N >>> (5 &&& 31) = nI (N / 32) := nI_shr (k := 5) hN (by decide)
theorem fld_itm {N : Nat} : nI N &&& 15 = nI (N % 16) := nI_mask N 4
theorem fld_mark {N : Nat} (hN : N < 2 ^ 31) : (nI N >>> (4 &&& 31)) &&& 1 = nI (N / 16 % 2) := fldG 4 1 hN (by decide)
/-- a mark set -/
theorem or1 {v m : Nat} (hm : m ≤ 1) : nI (2 * v + m) ||| 1 = nI (2 * v + 1) := by
  refine bq_ext (fun i hi => ?_)
  rw [bq_or, bq_nI hi, bq_nI hi, bq_1 i hi]
  have e : ∀ c, c ≤ 1 → (2 * v + c).testBit i = if i < 1 then c.testBit i else v.testBit (i - 1) := fun c hc => Nat.testBit_two_pow_mul_add (i := 1) v (b := c) (by omega) i
  rw [e m hm, e 1 (by omega)]
  by_cases g : i = 0
  · subst g; simp
  · rw [if_neg (by omega), if_neg (by omega)]; simp [g]
theorem bq_m16385 : ∀ i, i < 32 → bq (-16385) i = decide (i ≠ 14) := by decide +kernel
/-- the reporting bit set anew -/
theorem rep_set {A B r y : Nat} (hA : A < 16384) (hr : r ≤ 1) (hy : y ≤ 1) : (nI (A + 16384 * r + 32768 * B) &&& (-16385)) ||| nI (16384 * y) = nI (A + 16384 * y + 32768 * B) := by
  refine bq_ext (fun i hi => ?_)
  have e : ∀ c, A + 16384 * c + 32768 * B = 2 ^ 14 * (2 ^ 1 * B + c) + A := fun c => by omega
  have f : ∀ c, c ≤ 1 → (A + 16384 * c + 32768 * B).testBit i = if i < 14 then A.testBit i else if i - 14 < 1 then c.testBit (i - 14) else B.testBit (i - 14 - 1) := fun c hc => by
    rw [e c, Nat.testBit_two_pow_mul_add _ (show A < 2 ^ 14 by omega)]
    by_cases g : i < 14
    · rw [if_pos g, if_pos g]
    · rw [if_neg g, if_neg g, Nat.testBit_two_pow_mul_add _ (show c < 2 ^ 1 by omega)]
  have h : (16384 * y).testBit i = if i < 14 then false else if i - 14 < 1 then y.testBit (i - 14) else false := by
    have := Nat.testBit_two_pow_mul_add (i := 14) y (b := 0) (by decide) i
    rw [show 16384 * y = 2 ^ 14 * y + 0 by omega, this]
    by_cases g : i < 14
    · rw [if_pos g, if_pos g, Nat.zero_testBit]
    · rw [if_neg g, if_neg g]
      by_cases w : i - 14 < 1
      · rw [if_pos w]
      · rw [if_neg w]
        exact Nat.testBit_lt_two_pow (Nat.lt_of_le_of_lt hy (Nat.one_lt_two_pow (by omega)))
  rw [bq_or, bq_and, bq_nI hi, bq_nI hi, bq_nI hi, bq_m16385 i hi, f r hr, f y hy, h]
  by_cases g : i < 14
  · rw [if_pos g, if_pos g, if_pos g]; simp [show i ≠ 14 by omega]
  · rw [if_neg g, if_neg g, if_neg g]
    by_cases w : i = 14
    · subst w; simp
    · rw [if_neg (by omega), if_neg (by omega), if_neg (by omega)]; simp [w]
theorem u_toI (v : UInt32) : v.toInt32 = nI v.toNat := by
  refine Int32.toBitVec_inj.mp ?_
  show v.toBitVec = BitVec.ofNat 32 v.toBitVec.toNat
  simp
theorem nI_rem {N M : Nat} (hN : N < 2 ^ 31) (h0 : 0 < M) (hM : M < 2 ^ 31) : nI N - nI N / nI M * nI M = nI (N % M) := pk_rem hN h0 hM
theorem c_low {x : Int32} {n : Nat} {σ : PH} {Q : Int32 → PH → Prop} (h0 : 0 < n) (hn : n < 2 ^ 31) (h : ∀ k, k < n → Q (nI k) σ) : wL_low x (nI n) σ Q := by
  unfold wL_low
  have hs : (x.toUInt32 >>> ((1 : Int32).toUInt32 &&& Int32.toUInt32 31)).toNat < 2 ^ 31 := by
    have e : ((1 : Int32).toUInt32 &&& Int32.toUInt32 31) = 1 := by decide
    rw [e, UInt32.toNat_shiftRight]
    have : x.toUInt32.toNat < 2 ^ 32 := x.toUInt32.toNat_lt
    have e2 : (1 : UInt32).toNat % 32 = 1 := by decide
    rw [e2, Nat.shiftRight_eq_div_pow]; omega
  rw [u_toI, nI_rem hs h0 hn]
  refine ⟨?_, h _ (Nat.mod_lt _ h0)⟩
  rw [nI_e0 hn]; omega
