theorem wb_tb (n : Nat) : (lN n).toBitVec = BitVec.ofNat 64 n := rfl
theorem wb_inj {a b : Int64} (h : a.toBitVec = b.toBitVec) : a = b := Int64.toBitVec_inj.mp h
theorem wb_tn {n : Nat} (h : n < 2 ^ 64) : (lN n).toBitVec.toNat = n := by rw [wb_tb, BitVec.toNat_ofNat, Nat.mod_eq_of_lt h]
theorem wb_c : ∀ k, k < 64 → ((nI k).toInt64 &&& 63) = lN k := by decide +kernel
theorem wb_cu : ∀ k, k < 64 → ((nI k).toInt64.toUInt64 &&& Int64.toUInt64 63) = UInt64.ofNat k := by decide +kernel
theorem wb_sm : ∀ k, k < 64 → (BitVec.ofNat 64 k).smod 64 = BitVec.ofNat 64 k := by decide +kernel
theorem wb_lt2 {a b : Nat} (h : a < b) : 2 ^ a < 2 ^ b := Nat.pow_lt_pow_right (by decide) h
theorem wb_shr {n k : Nat} (hn : n < 2 ^ 64) (hk : k < 64) : ((lN n).toUInt64 >>> ((nI k).toInt64.toUInt64 &&& Int64.toUInt64 63)).toInt64 = lN (n / 2 ^ k) := by
  rw [wb_cu k hk]
  apply wb_inj
  apply BitVec.eq_of_toNat_eq
  show ((lN n).toUInt64 >>> UInt64.ofNat k).toNat = (BitVec.ofNat 64 _).toNat
  have h1 : (UInt64.ofNat k).toNat = k := by
    show (BitVec.ofNat 64 k).toNat = k
    rw [BitVec.toNat_ofNat, Nat.mod_eq_of_lt (by omega)]
  have h2 : (lN n).toUInt64.toNat = n := wb_tn hn
  rw [UInt64.toNat_shiftRight, h1, h2, Nat.mod_eq_of_lt hk, Nat.shiftRight_eq_div_pow, BitVec.toNat_ofNat, Nat.mod_eq_of_lt (Nat.lt_of_le_of_lt (Nat.div_le_self _ _) hn)]
theorem wb_shl (n : Nat) {k : Nat} (hk : k < 64) : lN n <<< ((nI k).toInt64 &&& 63) = lN (n * 2 ^ k) := by
  rw [wb_c k hk]
  apply wb_inj
  rw [Int64.toBitVec_shiftLeft, wb_tb, wb_tb, wb_tb, wb_sm k hk]
  apply BitVec.eq_of_toNat_eq
  rw [BitVec.shiftLeft_eq', BitVec.toNat_shiftLeft, BitVec.toNat_ofNat, BitVec.toNat_ofNat, BitVec.toNat_ofNat, Nat.mod_eq_of_lt (show k < 2 ^ 64 by omega), Nat.shiftLeft_eq, Nat.mul_mod, Nat.mod_mod, ← Nat.mul_mod]
theorem wb_and {a b : Nat} (ha : a < 2 ^ 64) (hb : b < 2 ^ 64) : lN a &&& lN b = lN (a &&& b) := by
  apply wb_inj
  rw [Int64.toBitVec_and, wb_tb, wb_tb, wb_tb]
  apply BitVec.eq_of_toNat_eq
  rw [BitVec.toNat_and, BitVec.toNat_ofNat, BitVec.toNat_ofNat, BitVec.toNat_ofNat, Nat.mod_eq_of_lt ha, Nat.mod_eq_of_lt hb, Nat.mod_eq_of_lt (Nat.and_lt_two_pow _ hb)]
theorem wb_or {a b : Nat} (ha : a < 2 ^ 64) (hb : b < 2 ^ 64) : lN a ||| lN b = lN (a ||| b) := by
  apply wb_inj
  rw [Int64.toBitVec_or, wb_tb, wb_tb, wb_tb]
  apply BitVec.eq_of_toNat_eq
  rw [BitVec.toNat_or, BitVec.toNat_ofNat, BitVec.toNat_ofNat, BitVec.toNat_ofNat, Nat.mod_eq_of_lt ha, Nat.mod_eq_of_lt hb, Nat.mod_eq_of_lt (Nat.or_lt_two_pow ha hb)]
theorem wb_mask {n k : Nat} (hn : n < 2 ^ 64) (hk : k < 64) : lN n &&& lN (2 ^ k - 1) = lN (n % 2 ^ k) := by
  rw [wb_and hn (by have := wb_lt2 hk; omega), Nat.and_two_pow_sub_one_eq_mod]
theorem pf_lI {a : Nat} (h : a < 2 ^ 63) : (lN a).toInt = (a : Int) := lg_ofNat_toInt h
theorem pf_shr {a d : Nat} {D : Int64} (hD : (D.toBitVec.smod 64).toNat = d) (h : a < 2 ^ 62) : lN a >>> D = lN (a / 2 ^ d) := by
  have hd : a / 2 ^ d ≤ a := Nat.div_le_self _ _
  apply Int64.toInt_inj.mp
  have e : (lN a >>> D).toInt = (lN a).toInt >>> d := by
    rw [← hD]
    exact BitVec.toInt_sshiftRight ..
  rw [e, Int.shiftRight_eq_div_pow, pf_lI (by omega), pf_lI (by omega)]
  rfl
theorem zofN (n : Nat) : Int64.ofInt (n : Int) = lN n := Int64.ofInt_eq_ofNat
theorem zofI (n : Nat) : Int32.ofInt (n : Int) = nI n := Int32.ofInt_eq_ofNat
/-- w >>> s of a number that is not below 0 -/
theorem zushr {w s : Int} (h0 : 0 ≤ w) (h1 : w < 4611686018427387904) (s0 : 0 ≤ s) (s1 : s < 64) : ((Int64.ofInt w).toUInt64 >>> ((Int32.ofInt s).toInt64.toUInt64 &&& Int64.toUInt64 63)).toInt64.toInt = w / 2 ^ s.toNat := by
  obtain ⟨n, rfl⟩ : ∃ n : Nat, w = (n : Int) := ⟨w.toNat, (Int.toNat_of_nonneg h0).symm⟩
  obtain ⟨k, rfl⟩ : ∃ k : Nat, s = (k : Int) := ⟨s.toNat, (Int.toNat_of_nonneg s0).symm⟩
  have hk : k < 64 := by omega
  have hn : n < 2 ^ 64 := by omega
  have hd : n / 2 ^ k ≤ n := Nat.div_le_self _ _
  generalize hq : n / 2 ^ k = q at hd
  rw [zofN, zofI, wb_shr hn hk, hq, ← zofN, zJ_t ⟨by omega, by omega⟩, Int.toNat_natCast, ← hq]
  simp
theorem zshr {w s : Int} (h0 : 0 ≤ w) (h1 : w < 4611686018427387904) (s0 : 0 ≤ s) (s1 : s < 64) : (Int64.ofInt w >>> ((Int32.ofInt s).toInt64 &&& 63)).toInt = w / 2 ^ s.toNat := by
  obtain ⟨n, rfl⟩ : ∃ n : Nat, w = (n : Int) := ⟨w.toNat, (Int.toNat_of_nonneg h0).symm⟩
  obtain ⟨k, rfl⟩ : ∃ k : Nat, s = (k : Int) := ⟨s.toNat, (Int.toNat_of_nonneg s0).symm⟩
  have hk : k < 64 := by omega
  have hn : n < 2 ^ 62 := by omega
  have hd : n / 2 ^ k ≤ n := Nat.div_le_self _ _
  have hD : ((lN k).toBitVec.smod 64).toNat = k := by
    rw [wb_tb, wb_sm k hk, BitVec.toNat_ofNat, Nat.mod_eq_of_lt (by omega)]
  generalize hq : n / 2 ^ k = q at hd
  rw [zofN, zofI, wb_c k hk, pf_shr hD hn, hq, ← zofN, zJ_t ⟨by omega, by omega⟩, Int.toNat_natCast, ← hq]
  simp
theorem zshl {w s : Int} (h0 : 0 ≤ w) (s0 : 0 ≤ s) (s1 : s < 64) (h1 : w * 2 ^ s.toNat < 9223372036854775808) : (Int64.ofInt w <<< ((Int32.ofInt s).toInt64 &&& 63)).toInt = w * 2 ^ s.toNat := by
  obtain ⟨n, rfl⟩ : ∃ n : Nat, w = (n : Int) := ⟨w.toNat, (Int.toNat_of_nonneg h0).symm⟩
  obtain ⟨k, rfl⟩ : ∃ k : Nat, s = (k : Int) := ⟨s.toNat, (Int.toNat_of_nonneg s0).symm⟩
  have hk : k < 64 := by omega
  rw [Int.toNat_natCast] at h1 ⊢
  have e : ((n * 2 ^ k : Nat) : Int) = (n : Int) * 2 ^ k := by simp
  rw [zofN, zofI, wb_shl n hk, ← zofN, zJ_t ⟨by omega, by rw [e]; omega⟩, e]
theorem zand31 {w : Int} (h0 : 0 ≤ w) (h1 : w < 9223372036854775808) : (Int64.ofInt w &&& Int64.ofInt 31).toInt = w % 32 := by
  obtain ⟨n, rfl⟩ : ∃ n : Nat, w = (n : Int) := ⟨w.toNat, (Int.toNat_of_nonneg h0).symm⟩
  have hn : n < 2 ^ 64 := by omega
  have := wb_mask (k := 5) hn (by decide)
  rw [show Int64.ofInt 31 = lN (2 ^ 5 - 1) from rfl, zofN, this, ← zofN, zJ_t ⟨by omega, by omega⟩]
  simp
theorem zori {w a b : Int} {k : Nat} (ha : 0 ≤ a) (hw : w = a * 2 ^ k) (hb : 0 ≤ b) (hb2 : b < 2 ^ k) (h : w + b < 9223372036854775808) : (Int64.ofInt w ||| Int64.ofInt b).toInt = w + b := by
  obtain ⟨n, rfl⟩ : ∃ n : Nat, a = (n : Int) := ⟨a.toNat, (Int.toNat_of_nonneg ha).symm⟩
  obtain ⟨m, rfl⟩ : ∃ m : Nat, b = (m : Int) := ⟨b.toNat, (Int.toNat_of_nonneg hb).symm⟩
  have hm : m < 2 ^ k := by have : ((2 ^ k : Nat) : Int) = 2 ^ k := by simp
                            omega
  have e : (n : Int) * 2 ^ k = ((2 ^ k * n : Nat) : Int) := by simp [Int.mul_comm]
  subst hw
  rw [e] at h ⊢
  have h2 : 2 ^ k * n + m < 2 ^ 64 := by omega
  rw [zofN, zofN, wb_or (by omega) (by omega), ← Nat.two_pow_add_eq_or_of_lt hm, ← zofN, zJ_t ⟨by omega, by omega⟩]
  simp
theorem zori' {w a b : Int} {k : Nat} (ha : 0 ≤ a) (hw : w = a * 2 ^ k) (hb : 0 ≤ b) (hb2 : b < 2 ^ k) (h : w + b < 9223372036854775808) : (Int64.ofInt b ||| Int64.ofInt w).toInt = w + b := by
  rw [Int64.or_comm]; exact zori ha hw hb hb2 h
