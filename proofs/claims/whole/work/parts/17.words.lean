/-! words as numbers: zdw, the letters as digits to 32 from 1 on; the left code zlc; the right code zrt -/
def zdw (f : Nat → Int) : Nat → Int
  | 0 => 0
  | n + 1 => 32 * zdw f n + (f n + 1)
def zrt (f : Nat → Int) : Nat → Int
  | 0 => 0
  | n + 1 => 32 * zrt f n + f n
def zrep : Nat → Int
  | 0 => 0
  | n + 1 => 32 * zrep n + 1
def zlet (f : Nat → Int) (n : Nat) : Prop := ∀ k : Nat, k < n → 0 ≤ f k ∧ f k < 26
def zlc (f : Nat → Int) (n : Nat) : Int := zdw f n * 32 ^ (12 - n)
theorem zp_pos (k : Nat) : (0 : Int) < 32 ^ k := Int.pow_pos (by decide)
theorem zp_s (k : Nat) : (32 : Int) ^ (k + 1) = 32 ^ k * 32 := Int.pow_succ 32 k
theorem zlet.le {f : Nat → Int} {n m : Nat} (h : zlet f n) (hm : m ≤ n) : zlet f m := fun k hk => h k (by omega)
theorem zdw_lt {f : Nat → Int} : ∀ {n : Nat}, zlet f n → 0 ≤ zdw f n ∧ zdw f n < 32 ^ n
  | 0, _ => ⟨by simp [zdw], by simp [zdw]⟩
  | n + 1, h => by
    have h1 := zdw_lt (n := n) (h.le (by omega))
    have h2 := h n (by omega)
    rw [zp_s]
    simp only [zdw]
    omega
theorem zdw_rt (f : Nat → Int) : ∀ n : Nat, zdw f n = zrt f n + zrep n
  | 0 => rfl
  | n + 1 => by simp only [zdw, zrt, zrep, zdw_rt f n]; omega
theorem zdw_div {f : Nat → Int} : ∀ (j m : Nat), zlet f (m + j) → zdw f (m + j) / 32 ^ j = zdw f m
  | 0, m, _ => by simp
  | j + 1, m, h => by
    have h2 := h (m + j) (by omega)
    have e : zdw f (m + (j + 1)) / 32 = zdw f (m + j) := by
      show (32 * zdw f (m + j) + (f (m + j) + 1)) / 32 = _
      omega
    rw [zp_s, Int.mul_comm, ← Int.ediv_ediv_of_nonneg (by decide), e]
    exact zdw_div j m (h.le (by omega))
theorem zlc_lt {f : Nat → Int} {n : Nat} (h : zlet f n) (hn : n ≤ 12) : 0 ≤ zlc f n ∧ zlc f n < 1152921504606846976 := by
  have h1 := zdw_lt h
  have hp := zp_pos (12 - n)
  refine ⟨Int.mul_nonneg h1.1 (Int.le_of_lt hp), ?_⟩
  have e : (32 : Int) ^ n * 32 ^ (12 - n) = 1152921504606846976 := by
    rw [← Int.pow_add, show n + (12 - n) = 12 by omega]; decide
  rw [← e]
  exact Int.mul_lt_mul_of_pos_right h1.2 hp
/-- digit k of a left code -/
theorem zlc_dig {f : Nat → Int} {n k : Nat} (h : zlet f n) (hn : n ≤ 12) (hk : k < 12) : zlc f n / 32 ^ (11 - k) % 32 = if k < n then f k + 1 else 0 := by
  unfold zlc
  by_cases hkn : k < n
  · rw [if_pos hkn]
    have e1 : (32 : Int) ^ (11 - k) = 32 ^ (12 - n) * 32 ^ (n - 1 - k) := by rw [← Int.pow_add]; congr 1; omega
    rw [e1, ← Int.ediv_ediv_of_nonneg (Int.le_of_lt (zp_pos _)), Int.mul_ediv_cancel _ (Int.ne_of_gt (zp_pos _))]
    have e2 := zdw_div (f := f) (n - 1 - k) (k + 1) (by rw [show k + 1 + (n - 1 - k) = n by omega]; exact h)
    rw [show k + 1 + (n - 1 - k) = n by omega] at e2
    rw [e2]
    have h2 := h k hkn
    show (32 * zdw f k + (f k + 1)) % 32 = _
    omega
  · rw [if_neg hkn]
    have e1 : (32 : Int) ^ (12 - n) = 32 ^ (k - n) * 32 * 32 ^ (11 - k) := by rw [← Int.pow_succ, ← Int.pow_add]; congr 1; omega
    rw [e1, ← Int.mul_assoc, Int.mul_ediv_cancel _ (Int.ne_of_gt (zp_pos _)), ← Int.mul_assoc]
    omega
theorem zlc_snoc {f : Nat → Int} {n : Nat} (hn : n < 12) : zlc f (n + 1) = zlc f n + (f n + 1) * 32 ^ (11 - n) := by
  unfold zlc
  have e : (32 : Int) ^ (12 - n) = 32 ^ (11 - n) * 32 := by rw [← Int.pow_succ]; congr 1; omega
  rw [e, show 12 - (n + 1) = 11 - n by omega]
  simp only [zdw]
  grind
theorem zdw_congr {f g : Nat → Int} : ∀ {n : Nat}, (∀ k, k < n → f k = g k) → zdw f n = zdw g n
  | 0, _ => rfl
  | n + 1, h => by simp only [zdw, zdw_congr (n := n) (fun k hk => h k (by omega)), h n (by omega)]
theorem zlc_congr {f g : Nat → Int} {n : Nat} (h : ∀ k, k < n → f k = g k) : zlc f n = zlc g n := by unfold zlc; rw [zdw_congr h]
/-- a left code tells its letters, and how many -/
theorem zlc_inj {f g : Nat → Int} {n m : Nat} (hf : zlet f n) (hg : zlet g m) (hn : n ≤ 12) (hm : m ≤ 12) (h : zlc f n = zlc g m) : n = m ∧ ∀ k, k < n → f k = g k := by
  have key : ∀ k, k < 12 → (if k < n then f k + 1 else 0) = (if k < m then g k + 1 else 0) := fun k hk => by rw [← zlc_dig hf hn hk, ← zlc_dig hg hm hk, h]
  have hnm : n = m := by
    rcases Nat.lt_trichotomy n m with q | q | q
    · have := key n (by omega)
      rw [if_neg (by omega), if_pos q] at this
      have := hg n q
      omega
    · exact q
    · have := key m (by omega)
      rw [if_pos q, if_neg (by omega)] at this
      have := hf m q
      omega
  refine ⟨hnm, fun k hk => ?_⟩
  have := key k (by omega)
  rw [if_pos hk, if_pos (by omega)] at this
  omega
/-- the first different letter decides -/
theorem zlc_lt_of {f g : Nat → Int} {n m k : Nat} (hf : zlet f n) (hg : zlet g m) (hn : n ≤ 12) (hm : m ≤ 12) (hk : ∀ j, j < k → f j = g j) (hkn : k ≤ n) (hkm : k < m) (h : n = k ∨ k < n ∧ f k < g k) : zlc f n < zlc g m := by
  -- the value up to letter k, in units of 32 ^ (11 - k)
  have up : ∀ (f : Nat → Int) (n j : Nat), zlet f n → n ≤ 12 → j ≤ n → zdw f j * 32 ^ (12 - j) ≤ zlc f n ∧ zlc f n < (zdw f j + 1) * 32 ^ (12 - j) := by
    intro f n j hf hn hj
    have e := zdw_div (f := f) (n - j) j (by rw [show j + (n - j) = n by omega]; exact hf)
    rw [show j + (n - j) = n by omega] at e
    have e2 : (32 : Int) ^ (12 - j) = 32 ^ (n - j) * 32 ^ (12 - n) := by rw [← Int.pow_add]; congr 1; omega
    have p1 := zp_pos (n - j)
    have p2 := zp_pos (12 - n)
    have m0 := Int.emod_nonneg (zdw f n) (Int.ne_of_gt p1)
    have m1 := Int.emod_lt_of_pos (zdw f n) p1
    have m2 := Int.emod_add_mul_ediv (zdw f n) (32 ^ (n - j))
    rw [e] at m2
    unfold zlc
    rw [e2]
    generalize (32 : Int) ^ (n - j) = A at *
    generalize (32 : Int) ^ (12 - n) = B at *
    constructor
    · rw [← Int.mul_assoc]
      exact Int.mul_le_mul_of_nonneg_right (by rw [Int.mul_comm]; omega) (Int.le_of_lt p2)
    · rw [← Int.mul_assoc]
      refine Int.mul_lt_mul_of_pos_right ?_ p2
      rw [Int.add_mul, Int.mul_comm (zdw f j)]
      omega
  have e0 : zdw f k = zdw g k := zdw_congr hk
  have g1 := (up g m (k + 1) hg hm (by omega)).1
  have hgk := hg k hkm
  have e3 : (32 : Int) ^ (12 - k) = 32 ^ (11 - k) * 32 := by rw [← Int.pow_succ]; congr 1; omega
  have p3 := zp_pos (11 - k)
  rcases h with rfl | ⟨h1, h2⟩
  · have f1 : zlc f n = zdw f n * 32 ^ (12 - n) := rfl
    rw [f1, e0, e3]
    rw [show 12 - (n + 1) = 11 - n by omega] at g1
    simp only [zdw] at g1
    generalize (32 : Int) ^ (11 - n) = A at *
    refine Int.lt_of_lt_of_le ?_ g1
    rw [Int.mul_comm A 32, ← Int.mul_assoc]
    exact Int.mul_lt_mul_of_pos_right (by omega) p3
  · have f1 := (up f n (k + 1) hf hn (by omega)).2
    rw [show 12 - (k + 1) = 11 - k by omega] at f1 g1
    simp only [zdw, e0] at f1 g1
    refine Int.lt_of_lt_of_le f1 (Int.le_trans ?_ g1)
    exact Int.mul_le_mul_of_nonneg_right (by omega) (Int.le_of_lt p3)
