/-! ===== ints and longs as whole numbers ===== -/
theorem iI_of (x : Int32) : x = iI x.toInt := (Int32.ofInt_toInt x).symm
theorem lI_of (x : Int64) : x = lI x.toInt := (Int64.ofInt_toInt x).symm
theorem iI_rng (x : Int32) : -2147483648 ≤ x.toInt ∧ x.toInt < 2147483648 := ⟨by have := Int32.le_toInt x; simpa using this, by have := Int32.toInt_lt x; simpa using this⟩
theorem lI_rng (x : Int64) : -9223372036854775808 ≤ x.toInt ∧ x.toInt < 9223372036854775808 := ⟨by have := Int64.le_toInt x; simpa using this, by have := Int64.toInt_lt x; simpa using this⟩
theorem iI_add (a b : Int) : iI a + iI b = iI (a + b) := (Int32.ofInt_add a b).symm
theorem iI_sub (a b : Int) : iI a - iI b = iI (a - b) := (Int32.ofInt_sub a b).symm
theorem iI_mul (a b : Int) : iI a * iI b = iI (a * b) := (Int32.ofInt_mul a b).symm
theorem iI_neg (a : Int) : -iI a = iI (-a) := (Int32.ofInt_neg a).symm
theorem lI_add (a b : Int) : lI a + lI b = lI (a + b) := (Int64.ofInt_add a b).symm
theorem lI_sub (a b : Int) : lI a - lI b = lI (a - b) := (Int64.ofInt_sub a b).symm
theorem lI_mul (a b : Int) : lI a * lI b = lI (a * b) := (Int64.ofInt_mul a b).symm
theorem lI_neg (a : Int) : -lI a = lI (-a) := (Int64.ofInt_neg a).symm
theorem iI_toInt {a : Int} (h1 : -2147483648 ≤ a) (h2 : a < 2147483648) : (iI a).toInt = a := Int32.toInt_ofInt_of_le (by omega) (by omega)
theorem lI_toInt {a : Int} (h1 : -9223372036854775808 ≤ a) (h2 : a < 9223372036854775808) : (lI a).toInt = a := Int64.toInt_ofInt_of_le (by omega) (by omega)
theorem iI_lt {a b : Int} (h1 : -2147483648 ≤ a) (h2 : a < 2147483648) (h3 : -2147483648 ≤ b) (h4 : b < 2147483648) : (iI a < iI b) = (a < b) := by
  rw [Int32.lt_iff_toInt_lt, iI_toInt h1 h2, iI_toInt h3 h4]
theorem iI_le {a b : Int} (h1 : -2147483648 ≤ a) (h2 : a < 2147483648) (h3 : -2147483648 ≤ b) (h4 : b < 2147483648) : (iI a ≤ iI b) = (a ≤ b) := by
  rw [Int32.le_iff_toInt_le, iI_toInt h1 h2, iI_toInt h3 h4]
theorem iI_eq {a b : Int} (h1 : -2147483648 ≤ a) (h2 : a < 2147483648) (h3 : -2147483648 ≤ b) (h4 : b < 2147483648) : (iI a = iI b) = (a = b) := by
  rw [← Int32.toInt_inj, iI_toInt h1 h2, iI_toInt h3 h4]
theorem lI_lt {a b : Int} (h1 : -9223372036854775808 ≤ a) (h2 : a < 9223372036854775808) (h3 : -9223372036854775808 ≤ b) (h4 : b < 9223372036854775808) : (lI a < lI b) = (a < b) := by
  rw [Int64.lt_iff_toInt_lt, lI_toInt h1 h2, lI_toInt h3 h4]
theorem lI_le {a b : Int} (h1 : -9223372036854775808 ≤ a) (h2 : a < 9223372036854775808) (h3 : -9223372036854775808 ≤ b) (h4 : b < 9223372036854775808) : (lI a ≤ lI b) = (a ≤ b) := by
  rw [Int64.le_iff_toInt_le, lI_toInt h1 h2, lI_toInt h3 h4]
theorem lI_eq {a b : Int} (h1 : -9223372036854775808 ≤ a) (h2 : a < 9223372036854775808) (h3 : -9223372036854775808 ≤ b) (h4 : b < 9223372036854775808) : (lI a = lI b) = (a = b) := by
  rw [← Int64.toInt_inj, lI_toInt h1 h2, lI_toInt h3 h4]
theorem iI_0 : (0 : Int32) = iI 0 := rfl
theorem iI_1 : (1 : Int32) = iI 1 := rfl
theorem lI_0 : (0 : Int64) = lI 0 := rfl
theorem lI_1 : (1 : Int64) = lI 1 := rfl
theorem iI_l {a : Int} (h1 : -2147483648 ≤ a) (h2 : a < 2147483648) : (iI a).toInt64 = lI a := Int64.toInt_inj.mp (by
  rw [lI_toInt (by omega) (by omega), Int32.toInt_toInt64, iI_toInt h1 h2])
theorem lI_i (a : Int) : (lI a).toInt32 = iI a := Int64.toInt32_ofInt
theorem nI_iI (n : Nat) : nI n = iI (n : Int) := by
  show Int32.ofNat n = Int32.ofInt (n : Int)
  exact (Int32.ofInt_eq_ofNat).symm
theorem iI_cl {a : Int} (h1 : 0 ≤ a) (h2 : a < 2147483648) : (iI a).toNatClampNeg = a.toNat := by
  show (iI a).toInt.toNat = a.toNat
  rw [iI_toInt (by omega) h2]
theorem iI_in {a : Int} {n : Nat} (h1 : 0 ≤ a) (h2 : a < n) (h3 : n < 2147483648) : vp_in (iI a) n := by
  rw [vp_in_iff, iI_toInt (by omega) (by omega)]
  exact ⟨h1, h2⟩
theorem bi_emod (a : Int) (w : Nat) : (BitVec.ofInt w a).toNat = (a % ((2 ^ w : Nat) : Int)).toNat := BitVec.toNat_ofInt a
theorem shl_mod (a : Int) (k w : Nat) : (a % ((2 ^ w : Nat) : Int)).toNat * 2 ^ k % 2 ^ w = ((a * ((2 ^ k : Nat) : Int)) % ((2 ^ w : Nat) : Int)).toNat := by
  have hw : (0 : Int) < ((2 ^ w : Nat) : Int) := by exact_mod_cast Nat.two_pow_pos w
  have h1 : 0 ≤ a % ((2 ^ w : Nat) : Int) := Int.emod_nonneg _ (by omega)
  apply Int.ofNat.inj
  show (((a % ((2 ^ w : Nat) : Int)).toNat * 2 ^ k % 2 ^ w : Nat) : Int) = (((a * ((2 ^ k : Nat) : Int)) % ((2 ^ w : Nat) : Int)).toNat : Int)
  rw [Int.toNat_of_nonneg (Int.emod_nonneg _ (by omega)), Int.natCast_emod, Int.natCast_mul, Int.toNat_of_nonneg h1, Int.mul_emod, Int.emod_emod, ← Int.mul_emod]
theorem sm32 : ∀ k : Nat, k < 32 → ((iI (k : Int) &&& 31).toBitVec.smod 32).toNat = k := by decide +kernel
theorem sm64 : ∀ k : Nat, k < 64 → (((iI (k : Int)).toInt64 &&& 63).toBitVec.smod 64).toNat = k := by decide +kernel
theorem iI_shlN (a : Int) {k : Nat} (hk : k < 32) : iI a <<< (iI (k : Int) &&& 31) = iI (a * 2 ^ k) := by
  apply Int32.toBitVec_inj.mp
  apply BitVec.eq_of_toNat_eq
  rw [pk_shl _ _ k (sm32 k hk)]
  show (BitVec.ofInt 32 a).toNat * 2 ^ k % 2 ^ 32 = (BitVec.ofInt 32 (a * 2 ^ k)).toNat
  rw [bi_emod, bi_emod, shl_mod, Int.natCast_pow]
  rfl
theorem ediv_rng {a p lo hi : Int} (hp : 0 < p) (h0 : lo ≤ 0) (h1 : lo ≤ a) (h2 : a < hi) (h3 : 0 < hi) : lo ≤ a / p ∧ a / p < hi := by
  refine ⟨(Int.le_ediv_iff_mul_le hp).mpr ?_, (Int.ediv_lt_iff_lt_mul hp).mpr ?_⟩
  · have : lo * p ≤ lo * 1 := Int.mul_le_mul_of_nonpos_left h0 (by omega)
    omega
  · have : hi * 1 ≤ hi * p := Int.mul_le_mul_of_nonneg_left (by omega) (by omega)
    omega
theorem iI_shrN {a : Int} (h1 : -2147483648 ≤ a) (h2 : a < 2147483648) {k : Nat} (hk : k < 32) : iI a >>> (iI (k : Int) &&& 31) = iI (a / 2 ^ k) := by
  apply Int32.toInt_inj.mp
  have hp : (0 : Int) < 2 ^ k := by exact_mod_cast Nat.two_pow_pos k
  obtain ⟨b1, b2⟩ := ediv_rng hp (by decide) h1 h2 (by decide)
  rw [pk_shr _ _ k (sm32 k hk), iI_toInt h1 h2, iI_toInt b1 b2, Int.shiftRight_eq_div_pow]
  simp
theorem lI_shlN (a : Int) {k : Nat} (hk : k < 64) : lI a <<< ((iI (k : Int)).toInt64 &&& 63) = lI (a * 2 ^ k) := by
  apply Int64.toBitVec_inj.mp
  apply BitVec.eq_of_toNat_eq
  show ((lI a).toBitVec <<< (((iI (k : Int)).toInt64 &&& 63).toBitVec.smod 64).toNat).toNat = _
  rw [sm64 k hk, BitVec.toNat_shiftLeft, Nat.shiftLeft_eq]
  show (BitVec.ofInt 64 a).toNat * 2 ^ k % 2 ^ 64 = (BitVec.ofInt 64 (a * 2 ^ k)).toNat
  rw [bi_emod, bi_emod, shl_mod, Int.natCast_pow]
  rfl
theorem lI_shrN {a : Int} (h1 : -9223372036854775808 ≤ a) (h2 : a < 9223372036854775808) {k : Nat} (hk : k < 64) : lI a >>> ((iI (k : Int)).toInt64 &&& 63) = lI (a / 2 ^ k) := by
  apply Int64.toInt_inj.mp
  have hp : (0 : Int) < 2 ^ k := by exact_mod_cast Nat.two_pow_pos k
  obtain ⟨b1, b2⟩ := ediv_rng hp (by decide) h1 h2 (by decide)
  show ((lI a).toBitVec.sshiftRight (((iI (k : Int)).toInt64 &&& 63).toBitVec.smod 64).toNat).toInt = _
  rw [sm64 k hk, BitVec.toInt_sshiftRight]
  show (lI a).toInt >>> k = _
  rw [lI_toInt h1 h2, lI_toInt b1 b2, Int.shiftRight_eq_div_pow]
  simp
theorem iI_shl (a : Int) {k : Int} (h1 : 0 ≤ k) (h2 : k < 32) : iI a <<< (iI k &&& 31) = iI (a * 2 ^ k.toNat) := by
  obtain ⟨n, rfl⟩ := Int.eq_ofNat_of_zero_le h1
  exact iI_shlN a (by omega)
theorem iI_shr {a k : Int} (h1 : -2147483648 ≤ a) (h2 : a < 2147483648) (h3 : 0 ≤ k) (h4 : k < 32) : iI a >>> (iI k &&& 31) = iI (a / 2 ^ k.toNat) := by
  obtain ⟨n, rfl⟩ := Int.eq_ofNat_of_zero_le h3
  exact iI_shrN h1 h2 (by omega)
theorem lI_shl (a : Int) {k : Int} (h1 : 0 ≤ k) (h2 : k < 64) : lI a <<< ((iI k).toInt64 &&& 63) = lI (a * 2 ^ k.toNat) := by
  obtain ⟨n, rfl⟩ := Int.eq_ofNat_of_zero_le h1
  exact lI_shlN a (by omega)
theorem lI_shr {a k : Int} (h1 : -9223372036854775808 ≤ a) (h2 : a < 9223372036854775808) (h3 : 0 ≤ k) (h4 : k < 64) : lI a >>> ((iI k).toInt64 &&& 63) = lI (a / 2 ^ k.toNat) := by
  obtain ⟨n, rfl⟩ := Int.eq_ofNat_of_zero_le h3
  exact lI_shrN h1 h2 (by omega)
theorem iI_and (a : Int) (k : Nat) (hk : k ≤ 31) : iI a &&& iI (2 ^ k - 1) = iI (a % 2 ^ k) := by
  have hp : (0 : Int) < 2 ^ k := by exact_mod_cast Nat.two_pow_pos k
  have hc : ((2 : Int) ^ k) = ((2 ^ k : Nat) : Int) := by rw [Int.natCast_pow]; rfl
  have h4 : ((2 ^ 32 : Nat) : Int) = 4294967296 := by decide
  have h3 : (2 : Int) ^ k ≤ 2147483648 := by
    rw [hc]
    have := Nat.pow_le_pow_right (n := 2) (by decide) hk
    omega
  have hm : (iI (2 ^ k - 1)).toBitVec.toNat = 2 ^ k - 1 := by
    show (BitVec.ofInt 32 (2 ^ k - 1)).toNat = _
    rw [bi_emod, h4, Int.emod_eq_of_lt (by omega) (by omega), hc]
    omega
  rw [pk_and _ k hm]
  apply Int32.toBitVec_inj.mp
  apply BitVec.eq_of_toNat_eq
  show (BitVec.ofNat 32 ((BitVec.ofInt 32 a).toNat % 2 ^ k)).toNat = (BitVec.ofInt 32 (a % 2 ^ k)).toNat
  rw [BitVec.toNat_ofNat, bi_emod, bi_emod]
  have hd : (2 : Int) ^ k ∣ ((2 ^ 32 : Nat) : Int) := by
    rw [hc]
    exact Int.ofNat_dvd.mpr (Nat.pow_dvd_pow 2 (by omega))
  have e1 : ((a % ((2 ^ 32 : Nat) : Int)).toNat : Int) = a % ((2 ^ 32 : Nat) : Int) := Int.toNat_of_nonneg (Int.emod_nonneg _ (by rw [h4]; decide))
  apply Int.ofNat.inj
  show (((a % ((2 ^ 32 : Nat) : Int)).toNat % 2 ^ k % 2 ^ 32 : Nat) : Int) = ((a % 2 ^ k % ((2 ^ 32 : Nat) : Int)).toNat : Int)
  rw [Int.toNat_of_nonneg (Int.emod_nonneg _ (by rw [h4]; decide)), Int.natCast_emod, Int.natCast_emod, e1, ← hc, Int.emod_emod_of_dvd _ hd]
