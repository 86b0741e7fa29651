/-! the model's isAhead, keep -/
theorem zrt_div {f : Nat → Int} : ∀ (j m : Nat), zlet f (m + j) → zrt f (m + j) / 32 ^ j = zrt f m
  | 0, m, _ => by simp
  | j + 1, m, h => by
    have h2 := h (m + j) (by omega)
    have e : zrt f (m + (j + 1)) / 32 = zrt f (m + j) := by
      show (32 * zrt f (m + j) + f (m + j)) / 32 = _
      omega
    rw [zp_s, Int.mul_comm, ← Int.ediv_ediv_of_nonneg (by decide), e]
    exact zrt_div j m (h.le (by omega))
theorem zrt_dig {f : Nat → Int} {n k : Nat} (h : zlet f n) (hk : k < n) : zrt f n / 32 ^ (n - 1 - k) % 32 = f k := by
  have e := zrt_div (f := f) (n - 1 - k) (k + 1) (by rw [show k + 1 + (n - 1 - k) = n by omega]; exact h)
  rw [show k + 1 + (n - 1 - k) = n by omega] at e
  rw [e]
  have h2 := h k hk
  show (32 * zrt f k + f k) % 32 = _
  omega
theorem z2p5 (n : Nat) : (2 : Int) ^ (5 * n) = 32 ^ n := by rw [Int.pow_mul]; congr 1
theorem zrt_r {f : Nat → Int} {n : Nat} (h : zlet f n) (hn : n ≤ 12) : 0 ≤ zrt f n ∧ zrt f n < 1152921504606846976 := by
  have h1 := zrt_lt h
  have := z32_12 hn
  omega
theorem zmd {f : Nat → Int} {n : Nat} {k : Int} (hf : zlet f n) (hn : n ≤ 12) (h0 : 0 ≤ k) (h1 : k < n) : (Int64.ofInt (Int64.ofInt (zrt f n) >>> ((Int32.ofInt ((5 : Int) * (((n : Int) - (1 : Int)) - k))).toInt64 &&& 63)).toInt &&& Int64.ofInt (31 : Int)).toInt = f k.toNat := by
  have hr := zrt_r hf hn
  obtain ⟨j, rfl⟩ : ∃ j : Nat, k = (j : Int) := ⟨k.toNat, by omega⟩
  have e : ((5 : Int) * (((n : Int) - (1 : Int)) - (j : Int))).toNat = 5 * (n - 1 - j) := by omega
  have hd : 0 ≤ zrt f n / 32 ^ (n - 1 - j) := Int.ediv_nonneg hr.1 (Int.le_of_lt (zp_pos _))
  have hd2 : zrt f n / 32 ^ (n - 1 - j) ≤ zrt f n := Int.ediv_le_self _ hr.1
  rw [zshr hr.1 (by omega) (by omega) (by omega), e, z2p5, zand31 hd (by omega), zrt_dig hf (by omega)]
  rfl
/-- a left code from a right one -/
def zlf (x n : Int) : Int := (x + zrep n.toNat) * 32 ^ (12 - n.toNat)
theorem zlf_lc {f : Nat → Int} {n : Nat} : zlf (zrt f n) (n : Int) = zlc f n := by
  unfold zlf zlc
  rw [zdw_rt, Int.toNat_natCast]
def zvw (x n : Int) : Prop := ∃ (f : Nat → Int) (m : Nat), zlet f m ∧ (1 ≤ m ∧ m ≤ 12) ∧ x = zrt f m ∧ n = (m : Int)
def zk3 (u t : zS) (a b : Int) : Prop := u 57 a = t 57 b ∧ u 58 a = t 58 b ∧ u 59 a = t 59 b
theorem zk3.rf {t : zS} {a : Int} : zk3 t t a a := ⟨rfl, rfl, rfl⟩
/-- the readings of ink i told by the model -/
def zKP (σ : zS) (i : Int) (S : Int → Int → Prop) : Prop := zTop S (σ 56 i) (fun j => σ 57 (5 * i + j)) (fun j => zlf (σ 58 (5 * i + j)) (σ 59 (5 * i + j))) ∧ ∀ j : Int, 0 ≤ j → j < σ 56 i → zvw (σ 58 (5 * i + j)) (σ 59 (5 * i + j))
def zKG (σ u : zS) (i : Int) : Prop := zfr [56, 57, 58, 59] σ u ∧ (∀ j : Int, ¬ j = i → u 56 j = σ 56 j) ∧ ∀ j : Int, (j < 5 * i ∨ 5 * i + 5 ≤ j) → zk3 u σ j j
theorem zKG.rf {σ : zS} {h : Int} : zKG σ σ h := ⟨zfr.rf, fun _ _ => rfl, fun _ _ => zk3.rf⟩
theorem zKG.trans {σ s u : zS} {h : Int} (a : zKG σ s h) (b : zKG s u h) : zKG σ u h := by
  obtain ⟨a1, a2, a3⟩ := a
  obtain ⟨b1, b2, b3⟩ := b
  refine ⟨fun k hk => by rw [b1 k hk, a1 k hk], fun j hj => by rw [b2 j hj, a2 j hj], fun j hj => ?_⟩
  unfold zk3
  rw [(b3 j hj).1, (b3 j hj).2.1, (b3 j hj).2.2]
  exact a3 j hj
theorem z3m {s : zS} {p a b c j : Int} : (zup (zup (zup s 57 p a) 58 p b) 59 p c) 57 j = (if j = p then a else s 57 j) ∧ (zup (zup (zup s 57 p a) 58 p b) 59 p c) 58 j = (if j = p then b else s 58 j) ∧ (zup (zup (zup s 57 p a) 58 p b) 59 p c) 59 j = (if j = p then c else s 59 j) :=
  ⟨by rw [zup_ne (by decide), zup_ne (by decide), zup_at], by rw [zup_ne (by decide), zup_at, zup_ne (by decide)], by rw [zup_at, zup_ne (by decide), zup_ne (by decide)]⟩
theorem zKG.put {τ t : zS} {s k a b c : Int} (h : zKG τ t s) (hk : 0 ≤ k ∧ k < 5) : zKG τ (zup (zup (zup t 57 (5 * s + k) a) 58 (5 * s + k) b) 59 (5 * s + k) c) s := by
  obtain ⟨h1, h2, h3⟩ := h
  refine ⟨((h1.up (c := 57) (by decide)).up (c := 58) (by decide)).up (c := 59) (by decide), fun j hj => ?_, fun j hj => ?_⟩
  · rw [zup_ne (by decide), zup_ne (by decide), zup_ne (by decide)]; exact h2 j hj
  · have z9 := z3m (s := t) (p := 5 * s + k) (a := a) (b := b) (c := c) (j := j)
    unfold zk3
    rw [z9.1, z9.2.1, z9.2.2, if_neg (by omega), if_neg (by omega), if_neg (by omega)]
    exact h3 j hj
theorem zKG.fin {τ t : zS} {s v : Int} (h : zKG τ t s) : zKG τ (zup t 56 s v) s := by
  obtain ⟨h1, h2, h3⟩ := h
  refine ⟨h1.up (c := 56) (by decide), fun j hj => ?_, fun j hj => ?_⟩
  · rw [zup_at, if_neg hj]; exact h2 j hj
  · unfold zk3
    rw [zup_ne (by decide), zup_ne (by decide), zup_ne (by decide)]; exact h3 j hj
def zNK (τ u : zS) (i c x n : Int) : Prop := zKG τ u i ∧ ∃ p : Int, 0 ≤ p ∧ p ≤ τ 56 i ∧ u 56 i = (if p < 5 then min 5 (τ 56 i + 1) else τ 56 i) ∧ (∀ j : Int, 0 ≤ j → j < p → j < 5 → zk3 u τ (5 * i + j) (5 * i + j)) ∧ (p < 5 → u 57 (5 * i + p) = c ∧ u 58 (5 * i + p) = x ∧ u 59 (5 * i + p) = n) ∧ (∀ j : Int, p < j → j ≤ τ 56 i → j < 5 → zk3 u τ (5 * i + j) (5 * i + (j - 1))) ∧ (p = 0 ∨ ¬ zbe c (zlf x n) (τ 57 (5 * i + (p - 1))) (zlf (τ 58 (5 * i + (p - 1))) (τ 59 (5 * i + (p - 1))))) ∧ ∀ j : Int, p ≤ j → j < τ 56 i → zbe c (zlf x n) (τ 57 (5 * i + j)) (zlf (τ 58 (5 * i + j)) (τ 59 (5 * i + j)))
theorem zNK_top {σ u : zS} {i c x n : Int} {S : Int → Int → Prop} (hT : zKP σ i S) (hi : zNK σ u i c x n) (hv : zvw x n) (hx : ∀ d, ¬ S (zlf x n) d) : zKP u i (fun y e => S y e ∨ y = zlf x n ∧ e = c) := by
  obtain ⟨-, p, p0, p1, q0, q1, q2, q3, q4, q5⟩ := hi
  have hn := hT.1.1
  have hx' : ∀ j : Int, 0 ≤ j → j < σ 56 i → ¬ zlf (σ 58 (5 * i + j)) (σ 59 (5 * i + j)) = zlf x n := fun j j0 j1 e => hx _ (by rw [← e]; exact (hT.1.2.2.1 j j0 j1).1)
  have lo : ∀ j : Int, 0 ≤ j → j < p → ¬ zbe c (zlf x n) (σ 57 (5 * i + j)) (zlf (σ 58 (5 * i + j)) (σ 59 (5 * i + j))) := fun j j0 j1 => by
    rcases q4 with q4 | q4
    · omega
    · by_cases e : j = p - 1
      · rw [e]; exact q4
      · have t := (hT.1.2.1 j (p - 1) j0 (by omega) (by omega)).1
        simp only at t
        omega
  refine ⟨?_, fun j j0 j1 => ?_⟩
  · by_cases g : p < 5
    · rw [if_pos g] at q0
      rw [q0]
      refine zTop.put (p := p) (q := min 4 (σ 56 i)) hT.1 ⟨p0, by omega⟩ (Or.inr ⟨hx', by omega⟩) lo (fun j j0 j1 j2 => q5 j j0 j2) (fun j j0 j1 => ?_)
      by_cases g1 : j < p
      · have t := q1 j j0 g1 (by omega)
        exact Or.inl ⟨g1, t.1, by simp only [t.2.1, t.2.2]⟩
      · by_cases g2 : j = p
        · have t := q2 g
          exact Or.inr (Or.inl ⟨g2, by simp only [g2, t.1], by simp only [g2, t.2.1, t.2.2]⟩)
        · have t := q3 j (by omega) (by omega) (by omega)
          exact Or.inr (Or.inr (Or.inl ⟨by omega, by omega, t.1, by simp only [t.2.1, t.2.2]⟩))
    · rw [if_neg g] at q0
      rw [q0]
      refine (zTop.over hT.1 (by omega) (lo 4 (by omega) (by omega))).arr (fun j j0 j1 => ?_)
      have t := q1 j j0 (by omega) (by omega)
      exact ⟨t.1, by simp only [t.2.1, t.2.2]⟩
  · by_cases g1 : j < p
    · have t := q1 j j0 g1 (by split at q0 <;> omega)
      rw [t.2.1, t.2.2]
      exact hT.2 j j0 (by omega)
    · have g : p < 5 := by
        by_cases g : p < 5
        · exact g
        · rw [if_neg g] at q0; omega
      rw [if_pos g] at q0
      by_cases g2 : j = p
      · rw [g2, (q2 g).2.1, (q2 g).2.2]; exact hv
      · have t := q3 j (by omega) (by omega) (by omega)
        rw [t.2.1, t.2.2]
        exact hT.2 (j - 1) (by omega) (by omega)
set_option maxRecDepth 100000 in
set_option maxHeartbeats 4000000 in
theorem lp_ahead {f : Nat → Int} {g : Nat → Int} {n9 : Nat} {m9 : Nat} {σ : zS} (hf : zlet f n9) (hg : zlet g m9) (hn12 : n9 ≤ 12) (hm12 : m9 ≤ 12) : ∀ (n : Nat) (k : Int), (n9 : Int) + 1 - k < (n : Int) → (0 ≤ k ∧ k ≤ n9 ∧ k ≤ m9) → (∀ j : Nat, (j : Int) < k → f j = g j) → zRuns 138 zX0 (fun (v : Int) (u : zS) => σ = u ∧ (v = 1 ∧ zlc f n9 < zlc g m9 ∨ v = 0 ∧ ¬ zlc f n9 < zlc g m9)) 3 [some (.inr (.inl (zrt f n9))), none, some (.inl (n9 : Int)), some (.inr (.inl (zrt g m9))), none, some (.inl (m9 : Int)), some (.inl k), none, none, none, none] [] σ := by
  intro n
  induction n with
  | zero =>
    intro k hn k0 he
    exfalso
    omega
  | succ n ih =>
    intro k hn k0 he
    refine zwalk zmk_138 [(3, [true, false, true, true, false, true, true, false, false, false, false])] 4 ?_
    show (((n9 : Int) ≤ k → (((m9 : Int) ≤ (n9 : Int) → (((0 : Int) = 0 ∨ (0 : Int) = 1) ∧ (σ = σ ∧ ((0 : Int) = 1 ∧ zlc f n9 < zlc g m9 ∨ (0 : Int) = 0 ∧ ¬ zlc f n9 < zlc g m9)))) ∧ ((n9 : Int) < (m9 : Int) → (((1 : Int) = 0 ∨ (1 : Int) = 1) ∧ (σ = σ ∧ ((1 : Int) = 1 ∧ zlc f n9 < zlc g m9 ∨ (1 : Int) = 0 ∧ ¬ zlc f n9 < zlc g m9)))))) ∧ (k < (n9 : Int) → (((m9 : Int) ≤ k → (((m9 : Int) ≤ (n9 : Int) → (((0 : Int) = 0 ∨ (0 : Int) = 1) ∧ (σ = σ ∧ ((0 : Int) = 1 ∧ zlc f n9 < zlc g m9 ∨ (0 : Int) = 0 ∧ ¬ zlc f n9 < zlc g m9)))) ∧ ((n9 : Int) < (m9 : Int) → (((1 : Int) = 0 ∨ (1 : Int) = 1) ∧ (σ = σ ∧ ((1 : Int) = 1 ∧ zlc f n9 < zlc g m9 ∨ (1 : Int) = 0 ∧ ¬ zlc f n9 < zlc g m9)))))) ∧ (k < (m9 : Int) → (zI ((n9 : Int) - (1 : Int)) ∧ (zI (((n9 : Int) - (1 : Int)) - k) ∧ (zI ((5 : Int) * (((n9 : Int) - (1 : Int)) - k)) ∧ (zI ((m9 : Int) - (1 : Int)) ∧ (zI (((m9 : Int) - (1 : Int)) - k) ∧ (zI ((5 : Int) * (((m9 : Int) - (1 : Int)) - k)) ∧ (((zcmp (Int64.ofInt (Int64.ofInt (zrt f n9) >>> ((Int32.ofInt ((5 : Int) * (((n9 : Int) - (1 : Int)) - k))).toInt64 &&& 63)).toInt &&& Int64.ofInt (31 : Int)).toInt (Int64.ofInt (Int64.ofInt (zrt g m9) >>> ((Int32.ofInt ((5 : Int) * (((m9 : Int) - (1 : Int)) - k))).toInt64 &&& 63)).toInt &&& Int64.ofInt (31 : Int)).toInt) = 0 → (zI (k + (1 : Int)) ∧ zRuns 138 zX0 (fun (v : Int) (u : zS) => σ = u ∧ (v = 1 ∧ zlc f n9 < zlc g m9 ∨ v = 0 ∧ ¬ zlc f n9 < zlc g m9)) 3 [some (.inr (.inl (zrt f n9))), none, some (.inl (n9 : Int)), some (.inr (.inl (zrt g m9))), none, some (.inl (m9 : Int)), some (.inl (k + (1 : Int))), none, none, none, none] [] σ)) ∧ (¬ (zcmp (Int64.ofInt (Int64.ofInt (zrt f n9) >>> ((Int32.ofInt ((5 : Int) * (((n9 : Int) - (1 : Int)) - k))).toInt64 &&& 63)).toInt &&& Int64.ofInt (31 : Int)).toInt (Int64.ofInt (Int64.ofInt (zrt g m9) >>> ((Int32.ofInt ((5 : Int) * (((m9 : Int) - (1 : Int)) - k))).toInt64 &&& 63)).toInt &&& Int64.ofInt (31 : Int)).toInt) = 0 → ((0 ≤ (zcmp (Int64.ofInt (Int64.ofInt (zrt f n9) >>> ((Int32.ofInt ((5 : Int) * (((n9 : Int) - (1 : Int)) - k))).toInt64 &&& 63)).toInt &&& Int64.ofInt (31 : Int)).toInt (Int64.ofInt (Int64.ofInt (zrt g m9) >>> ((Int32.ofInt ((5 : Int) * (((m9 : Int) - (1 : Int)) - k))).toInt64 &&& 63)).toInt &&& Int64.ofInt (31 : Int)).toInt) → (((0 : Int) = 0 ∨ (0 : Int) = 1) ∧ (σ = σ ∧ ((0 : Int) = 1 ∧ zlc f n9 < zlc g m9 ∨ (0 : Int) = 0 ∧ ¬ zlc f n9 < zlc g m9)))) ∧ ((zcmp (Int64.ofInt (Int64.ofInt (zrt f n9) >>> ((Int32.ofInt ((5 : Int) * (((n9 : Int) - (1 : Int)) - k))).toInt64 &&& 63)).toInt &&& Int64.ofInt (31 : Int)).toInt (Int64.ofInt (Int64.ofInt (zrt g m9) >>> ((Int32.ofInt ((5 : Int) * (((m9 : Int) - (1 : Int)) - k))).toInt64 &&& 63)).toInt &&& Int64.ofInt (31 : Int)).toInt) < 0 → (((1 : Int) = 0 ∨ (1 : Int) = 1) ∧ (σ = σ ∧ ((1 : Int) = 1 ∧ zlc f n9 < zlc g m9 ∨ (1 : Int) = 0 ∧ ¬ zlc f n9 < zlc g m9)))))))))))))))))
    refine ⟨?_, ?_⟩
    · intro h1
      refine ⟨?_, ?_⟩
      · intro h2
        refine ⟨by (omega), ?_⟩
        refine ⟨rfl, Or.inr ⟨rfl, ?_⟩⟩
        have e : n9 = m9 := by omega
        rw [zlc_congr (fun j hj => he j (by omega)), e]
        exact Int.lt_irrefl _
      · intro h3
        refine ⟨by (omega), ?_⟩
        exact ⟨rfl, Or.inl ⟨rfl, zlc_lt_of (k := n9) hf hg hn12 hm12 (fun j hj => he j (by omega)) (Nat.le_refl _) (by omega) (Or.inl rfl)⟩⟩
    · intro h4
      refine ⟨?_, ?_⟩
      · intro h5
        refine ⟨?_, ?_⟩
        · intro h6
          refine ⟨by (omega), ?_⟩
          exact ⟨rfl, Or.inr ⟨rfl, fun q => by have := zlc_lt_of (k := m9) hg hf hm12 hn12 (fun j hj => (he j (by omega)).symm) (Nat.le_refl _) (by omega) (Or.inl rfl); omega⟩⟩
        · intro h7
          refine ⟨by (omega), ?_⟩
          exfalso; omega
      · intro h8
        refine ⟨by (first | exact ⟨by omega, by omega⟩ | (exfalso; omega)), ?_⟩
        refine ⟨by (first | exact ⟨by omega, by omega⟩ | (exfalso; omega)), ?_⟩
        refine ⟨by (first | exact ⟨by omega, by omega⟩ | (exfalso; omega)), ?_⟩
        refine ⟨by (first | exact ⟨by omega, by omega⟩ | (exfalso; omega)), ?_⟩
        refine ⟨by (first | exact ⟨by omega, by omega⟩ | (exfalso; omega)), ?_⟩
        refine ⟨by (first | exact ⟨by omega, by omega⟩ | (exfalso; omega)), ?_⟩
        refine ⟨?_, ?_⟩
        · intro h9
          simp only [zc_lt, zc_ge, zc_gt, zc_le, zc_eq] at h9
          rw [zmd hf hn12 k0.1 (by omega), zmd hg hm12 k0.1 (by omega)] at h9
          refine ⟨by (first | exact ⟨by omega, by omega⟩ | (exfalso; omega)), ?_⟩
          refine ih (k + 1) (by omega) ⟨by omega, by omega, by omega⟩ (fun j hj => ?_)
          by_cases e : (j : Int) = k
          · have e2 : j = k.toNat := by omega
            rw [e2]; assumption
          · exact he j (by omega)
        · intro h10
          simp only [zc_lt, zc_ge, zc_gt, zc_le, zc_eq] at h10
          rw [zmd hf hn12 k0.1 (by omega), zmd hg hm12 k0.1 (by omega)] at h10
          refine ⟨?_, ?_⟩
          · intro h11
            simp only [zc_lt, zc_ge, zc_gt, zc_le, zc_eq] at h11
            rw [zmd hf hn12 k0.1 (by omega), zmd hg hm12 k0.1 (by omega)] at h11
            refine ⟨by (omega), ?_⟩
            exact ⟨rfl, Or.inr ⟨rfl, fun q => by have := zlc_lt_of (k := k.toNat) hg hf hm12 hn12 (fun j hj => (he j (by omega)).symm) (by omega) (by omega) (Or.inr ⟨by omega, by omega⟩); omega⟩⟩
          · intro h12
            simp only [zc_lt, zc_ge, zc_gt, zc_le, zc_eq] at h12
            rw [zmd hf hn12 k0.1 (by omega), zmd hg hm12 k0.1 (by omega)] at h12
            refine ⟨by (omega), ?_⟩
            exact ⟨rfl, Or.inl ⟨rfl, zlc_lt_of (k := k.toNat) hf hg hn12 hm12 (fun j hj => he j (by omega)) (by omega) (by omega) (Or.inr ⟨by omega, by omega⟩)⟩⟩
set_option maxRecDepth 100000 in
set_option maxHeartbeats 4000000 in
theorem am_X9_isAhead {σ : zS} {f : Nat → Int} {g : Nat → Int} {n9 : Nat} {m9 : Nat} (hf : zlet f n9) (hg : zlet g m9) (hn12 : n9 ≤ 12) (hm12 : m9 ≤ 12) : zAM 138 [.inr (.inl (zrt f n9)), .inl (n9 : Int), .inr (.inl (zrt g m9)), .inl (m9 : Int)] σ (fun (v : Int) (u : zS) => σ = u ∧ (v = 1 ∧ zlc f n9 < zlc g m9 ∨ v = 0 ∧ ¬ zlc f n9 < zlc g m9)) := by
  refine zam (by decide) (Nat.le_of_ble_eq_true rfl) ?_
  refine zwalk zmk_138 [(3, [true, false, true, true, false, true, true, false, false, false, false])] 2 ?_
  show zRuns 138 zX0 (fun (v : Int) (u : zS) => σ = u ∧ (v = 1 ∧ zlc f n9 < zlc g m9 ∨ v = 0 ∧ ¬ zlc f n9 < zlc g m9)) 3 [some (.inr (.inl (zrt f n9))), none, some (.inl (n9 : Int)), some (.inr (.inl (zrt g m9))), none, some (.inl (m9 : Int)), some (.inl (0 : Int)), none, none, none, none] [] σ
  exact lp_ahead hf hg hn12 hm12 (n9 + 2) 0 (by omega) ⟨by omega, by omega, by omega⟩ (fun j hj => by omega)
set_option maxRecDepth 100000 in
set_option maxHeartbeats 4000000 in
theorem lp_k161 {i c k : Int} {f : Nat → Int} {m9 : Nat} {τ t : zS} (hi : 0 ≤ i ∧ i < 40) (hN : 0 ≤ τ 56 i ∧ τ 56 i ≤ 5) (hf : zlet f m9) (hm12 : m9 ≤ 12) (hv : ∀ j : Int, 0 ≤ j → j < τ 56 i → zvw (τ 58 (5 * i + j)) (τ 59 (5 * i + j))) (k0 : 0 ≤ k ∧ k ≤ τ 56 i) (hfr : zKG τ t i ∧ t 56 = τ 56) (f1 : ∀ j : Int, 0 ≤ j → (j ≤ k ∨ τ 56 i < j) → j < 5 → zk3 t τ (5 * i + j) (5 * i + j)) (f2 : ∀ j : Int, k < j → j ≤ τ 56 i → j < 5 → zk3 t τ (5 * i + j) (5 * i + (j - 1))) (f3 : ∀ j : Int, k ≤ j → j < τ 56 i → zbe c (zlc f m9) (τ 57 (5 * i + j)) (zlf (τ 58 (5 * i + j)) (τ 59 (5 * i + j)))) (f4 : k = 0 ∨ ¬ zbe c (zlc f m9) (τ 57 (5 * i + (k - 1))) (zlf (τ 58 (5 * i + (k - 1))) (τ 59 (5 * i + (k - 1))))) : zRuns 140 zX0 (fun (v : Int) (u : zS) => zNK τ u i c (zrt f m9) (m9 : Int)) 161 [some (.inr (.inr (9, 0))), some (.inl i), some (.inl c), some (.inr (.inl (zrt f m9))), none, some (.inl (m9 : Int)), some (.inl (5 * i)), some (.inl k)] [] t := by
  refine zwalk zmk_140 [(13, [true, true, true, true, false, true, true, true]), (161, [true, true, true, true, false, true, true, true])] 3 ?_
  show (((5 : Int) ≤ k → (zNK τ t i c (zrt f m9) (m9 : Int))) ∧ (k < (5 : Int) → (zI ((5 * i) + k) ∧ ((0 ≤ ((5 * i) + k) ∧ ((5 * i) + k) < (200 : Int)) ∧ (zI ((5 * i) + k) ∧ ((0 ≤ ((5 * i) + k) ∧ ((5 * i) + k) < (200 : Int)) ∧ (zI ((5 * i) + k) ∧ ((0 ≤ ((5 * i) + k) ∧ ((5 * i) + k) < (200 : Int)) ∧ ((0 ≤ i ∧ i < (40 : Int)) ∧ (((5 : Int) ≤ (t 56 i) → ((0 ≤ i ∧ i < (40 : Int)) ∧ (zNK τ (zup (zup (zup (zup t 57 ((5 * i) + k) c) 58 ((5 * i) + k) (zrt f m9)) 59 ((5 * i) + k) (m9 : Int)) 56 i (5 : Int)) i c (zrt f m9) (m9 : Int)))) ∧ ((t 56 i) < (5 : Int) → ((0 ≤ i ∧ i < (40 : Int)) ∧ (zI ((t 56 i) + (1 : Int)) ∧ ((0 ≤ i ∧ i < (40 : Int)) ∧ (zNK τ (zup (zup (zup (zup t 57 ((5 * i) + k) c) 58 ((5 * i) + k) (zrt f m9)) 59 ((5 * i) + k) (m9 : Int)) 56 i ((t 56 i) + (1 : Int))) i c (zrt f m9) (m9 : Int))))))))))))))))
  have e56 : t 56 i = τ 56 i := by rw [hfr.2]
  refine ⟨?_, ?_⟩
  · intro h1
    refine ⟨hfr.1, k, k0.1, k0.2, ?_, fun j j0 j1 j2 => f1 j j0 (by omega) j2, fun q => by omega, fun j j0 j1 j2 => by omega, by rw [zlf_lc]; exact f4, fun j j0 j1 => by rw [zlf_lc]; exact f3 j j0 j1⟩
    rw [if_neg (by omega)]; exact e56
  · intro h2
    refine ⟨by (exact ⟨by omega, by omega⟩), ?_⟩
    refine ⟨by (first | exact ⟨by omega, by omega⟩ | (exfalso; omega)), ?_⟩
    refine ⟨by (exact ⟨by omega, by omega⟩), ?_⟩
    refine ⟨by (first | exact ⟨by omega, by omega⟩ | (exfalso; omega)), ?_⟩
    refine ⟨by (exact ⟨by omega, by omega⟩), ?_⟩
    refine ⟨by (first | exact ⟨by omega, by omega⟩ | (exfalso; omega)), ?_⟩
    refine ⟨by (first | exact ⟨by omega, by omega⟩ | (exfalso; omega)), ?_⟩
    refine ⟨?_, ?_⟩
    · intro h3
      refine ⟨by (first | exact ⟨by omega, by omega⟩ | (exfalso; omega)), ?_⟩
      have z9 := fun j => z3m (s := t) (p := 5 * i + k) (a := c) (b := zrt f m9) (c := (m9 : Int)) (j := j)
      refine ⟨(hfr.1.put ⟨k0.1, by omega⟩).fin, k, k0.1, k0.2, ?_, fun j j0 j1 j2 => ?_, fun _ => ?_, fun j j0 j1 j2 => ?_, by rw [zlf_lc]; exact f4, fun j j0 j1 => by rw [zlf_lc]; exact f3 j j0 j1⟩
      · rw [zup_at, if_pos rfl, if_pos (by omega)]; rw [hfr.2] at *; omega
      · unfold zk3
        rw [zup_ne (k := 56) (j := 57) (by decide), zup_ne (k := 56) (j := 58) (by decide), zup_ne (k := 56) (j := 59) (by decide), (z9 _).1, (z9 _).2.1, (z9 _).2.2, if_neg (by omega), if_neg (by omega), if_neg (by omega)]; exact f1 j j0 (by omega) j2
      · rw [zup_ne (k := 56) (j := 57) (by decide), zup_ne (k := 56) (j := 58) (by decide), zup_ne (k := 56) (j := 59) (by decide), (z9 _).1, (z9 _).2.1, (z9 _).2.2, if_pos rfl, if_pos rfl, if_pos rfl]; exact ⟨rfl, rfl, rfl⟩
      · unfold zk3
        rw [zup_ne (k := 56) (j := 57) (by decide), zup_ne (k := 56) (j := 58) (by decide), zup_ne (k := 56) (j := 59) (by decide), (z9 _).1, (z9 _).2.1, (z9 _).2.2, if_neg (by omega), if_neg (by omega), if_neg (by omega)]; exact f2 j j0 j1 j2
    · intro h4
      refine ⟨by (first | exact ⟨by omega, by omega⟩ | (exfalso; omega)), ?_⟩
      refine ⟨by (exact ⟨by omega, by omega⟩), ?_⟩
      refine ⟨by (first | exact ⟨by omega, by omega⟩ | (exfalso; omega)), ?_⟩
      have z9 := fun j => z3m (s := t) (p := 5 * i + k) (a := c) (b := zrt f m9) (c := (m9 : Int)) (j := j)
      refine ⟨(hfr.1.put ⟨k0.1, by omega⟩).fin, k, k0.1, k0.2, ?_, fun j j0 j1 j2 => ?_, fun _ => ?_, fun j j0 j1 j2 => ?_, by rw [zlf_lc]; exact f4, fun j j0 j1 => by rw [zlf_lc]; exact f3 j j0 j1⟩
      · rw [zup_at, if_pos rfl, if_pos (by omega)]; rw [hfr.2] at *; omega
      · unfold zk3
        rw [zup_ne (k := 56) (j := 57) (by decide), zup_ne (k := 56) (j := 58) (by decide), zup_ne (k := 56) (j := 59) (by decide), (z9 _).1, (z9 _).2.1, (z9 _).2.2, if_neg (by omega), if_neg (by omega), if_neg (by omega)]; exact f1 j j0 (by omega) j2
      · rw [zup_ne (k := 56) (j := 57) (by decide), zup_ne (k := 56) (j := 58) (by decide), zup_ne (k := 56) (j := 59) (by decide), (z9 _).1, (z9 _).2.1, (z9 _).2.2, if_pos rfl, if_pos rfl, if_pos rfl]; exact ⟨rfl, rfl, rfl⟩
      · unfold zk3
        rw [zup_ne (k := 56) (j := 57) (by decide), zup_ne (k := 56) (j := 58) (by decide), zup_ne (k := 56) (j := 59) (by decide), (z9 _).1, (z9 _).2.1, (z9 _).2.2, if_neg (by omega), if_neg (by omega), if_neg (by omega)]; exact f2 j j0 j1 j2
set_option maxRecDepth 100000 in
set_option maxHeartbeats 4000000 in
theorem lp_k13 {i : Int} {c : Int} {f : Nat → Int} {m9 : Nat} {τ : zS} (hi : 0 ≤ i ∧ i < 40) (hN : 0 ≤ τ 56 i ∧ τ 56 i ≤ 5) (hf : zlet f m9) (hm12 : m9 ≤ 12) (hv : ∀ j : Int, 0 ≤ j → j < τ 56 i → zvw (τ 58 (5 * i + j)) (τ 59 (5 * i + j))) : ∀ (n : Nat) (k : Int) (t : zS), k < (n : Int) → (0 ≤ k ∧ k ≤ τ 56 i) → (zKG τ t i ∧ t 56 = τ 56) → (∀ j : Int, 0 ≤ j → (j ≤ k ∨ τ 56 i < j) → j < 5 → zk3 t τ (5 * i + j) (5 * i + j)) → (∀ j : Int, k < j → j ≤ τ 56 i → j < 5 → zk3 t τ (5 * i + j) (5 * i + (j - 1))) → (∀ j : Int, k ≤ j → j < τ 56 i → zbe c (zlc f m9) (τ 57 (5 * i + j)) (zlf (τ 58 (5 * i + j)) (τ 59 (5 * i + j)))) → zRuns 140 zX0 (fun (v : Int) (u : zS) => zNK τ u i c (zrt f m9) (m9 : Int)) 13 [some (.inr (.inr (9, 0))), some (.inl i), some (.inl c), some (.inr (.inl (zrt f m9))), none, some (.inl (m9 : Int)), some (.inl (5 * i)), some (.inl k)] [] t := by
  intro n
  induction n with
  | zero =>
    intro k t hn k0 hfr f1 f2 f3
    exfalso
    omega
  | succ n ih =>
    intro k t hn k0 hfr f1 f2 f3
    refine zwalk zmk_140 [(13, [true, true, true, true, false, true, true, true]), (161, [true, true, true, true, false, true, true, true])] 4 ?_
    show ((k ≤ 0 → zRuns 140 zX0 (fun (v : Int) (u : zS) => zNK τ u i c (zrt f m9) (m9 : Int)) 161 [some (.inr (.inr (9, 0))), some (.inl i), some (.inl c), some (.inr (.inl (zrt f m9))), none, some (.inl (m9 : Int)), some (.inl (5 * i)), some (.inl k)] [] t) ∧ (0 < k → (zI ((5 * i) + k) ∧ (zI (((5 * i) + k) - (1 : Int)) ∧ ((0 ≤ (((5 * i) + k) - (1 : Int)) ∧ (((5 * i) + k) - (1 : Int)) < (200 : Int)) ∧ ((c < (t 57 (((5 * i) + k) - (1 : Int))) → (((5 : Int) ≤ k → (zI (k + (-1 : Int)) ∧ zRuns 140 zX0 (fun (v : Int) (u : zS) => zNK τ u i c (zrt f m9) (m9 : Int)) 13 [some (.inr (.inr (9, 0))), some (.inl i), some (.inl c), some (.inr (.inl (zrt f m9))), none, some (.inl (m9 : Int)), some (.inl (5 * i)), some (.inl (k + (-1 : Int)))] [] t)) ∧ (k < (5 : Int) → (zI ((5 * i) + k) ∧ (zI ((5 * i) + k) ∧ (zI (((5 * i) + k) - (1 : Int)) ∧ ((0 ≤ (((5 * i) + k) - (1 : Int)) ∧ (((5 * i) + k) - (1 : Int)) < (200 : Int)) ∧ ((0 ≤ ((5 * i) + k) ∧ ((5 * i) + k) < (200 : Int)) ∧ (zI ((5 * i) + k) ∧ (zI ((5 * i) + k) ∧ (zI (((5 * i) + k) - (1 : Int)) ∧ ((0 ≤ (((5 * i) + k) - (1 : Int)) ∧ (((5 * i) + k) - (1 : Int)) < (200 : Int)) ∧ ((0 ≤ ((5 * i) + k) ∧ ((5 * i) + k) < (200 : Int)) ∧ (zI ((5 * i) + k) ∧ (zI ((5 * i) + k) ∧ (zI (((5 * i) + k) - (1 : Int)) ∧ ((0 ≤ (((5 * i) + k) - (1 : Int)) ∧ (((5 * i) + k) - (1 : Int)) < (200 : Int)) ∧ ((0 ≤ ((5 * i) + k) ∧ ((5 * i) + k) < (200 : Int)) ∧ (zI (k + (-1 : Int)) ∧ zRuns 140 zX0 (fun (v : Int) (u : zS) => zNK τ u i c (zrt f m9) (m9 : Int)) 13 [some (.inr (.inr (9, 0))), some (.inl i), some (.inl c), some (.inr (.inl (zrt f m9))), none, some (.inl (m9 : Int)), some (.inl (5 * i)), some (.inl (k + (-1 : Int)))] [] (zup (zup (zup t 57 ((5 * i) + k) (t 57 (((5 * i) + k) - (1 : Int)))) 58 ((5 * i) + k) (t 58 (((5 * i) + k) - (1 : Int)))) 59 ((5 * i) + k) (t 59 (((5 * i) + k) - (1 : Int))))))))))))))))))))))) ∧ ((t 57 (((5 * i) + k) - (1 : Int))) ≤ c → (zI ((5 * i) + k) ∧ (zI (((5 * i) + k) - (1 : Int)) ∧ ((0 ≤ (((5 * i) + k) - (1 : Int)) ∧ (((5 * i) + k) - (1 : Int)) < (200 : Int)) ∧ ((¬ (t 57 (((5 * i) + k) - (1 : Int))) = c → zRuns 140 zX0 (fun (v : Int) (u : zS) => zNK τ u i c (zrt f m9) (m9 : Int)) 161 [some (.inr (.inr (9, 0))), some (.inl i), some (.inl c), some (.inr (.inl (zrt f m9))), none, some (.inl (m9 : Int)), some (.inl (5 * i)), some (.inl k)] [] t) ∧ ((t 57 (((5 * i) + k) - (1 : Int))) = c → (zI ((5 * i) + k) ∧ (zI (((5 * i) + k) - (1 : Int)) ∧ ((0 ≤ (((5 * i) + k) - (1 : Int)) ∧ (((5 * i) + k) - (1 : Int)) < (200 : Int)) ∧ (zI ((5 * i) + k) ∧ (zI (((5 * i) + k) - (1 : Int)) ∧ ((0 ≤ (((5 * i) + k) - (1 : Int)) ∧ (((5 * i) + k) - (1 : Int)) < (200 : Int)) ∧ (∃ Rc : Int → zS → Prop, zAM 138 [.inr (.inl (zrt f m9)), .inl (m9 : Int), .inr (.inl (t 58 (((5 * i) + k) - (1 : Int)))), .inl (t 59 (((5 * i) + k) - (1 : Int)))] t Rc ∧ ∀ (v1 : Int) (u1 : zS), zI v1 → Rc v1 u1 → ((v1 = 0 → zRuns 140 zX0 (fun (v : Int) (u : zS) => zNK τ u i c (zrt f m9) (m9 : Int)) 161 [some (.inr (.inr (9, 0))), some (.inl i), some (.inl c), some (.inr (.inl (zrt f m9))), none, some (.inl (m9 : Int)), some (.inl (5 * i)), some (.inl k)] [] u1) ∧ (¬ v1 = 0 → (((5 : Int) ≤ k → (zI (k + (-1 : Int)) ∧ zRuns 140 zX0 (fun (v : Int) (u : zS) => zNK τ u i c (zrt f m9) (m9 : Int)) 13 [some (.inr (.inr (9, 0))), some (.inl i), some (.inl c), some (.inr (.inl (zrt f m9))), none, some (.inl (m9 : Int)), some (.inl (5 * i)), some (.inl (k + (-1 : Int)))] [] u1)) ∧ (k < (5 : Int) → (zI ((5 * i) + k) ∧ (zI ((5 * i) + k) ∧ (zI (((5 * i) + k) - (1 : Int)) ∧ ((0 ≤ (((5 * i) + k) - (1 : Int)) ∧ (((5 * i) + k) - (1 : Int)) < (200 : Int)) ∧ ((0 ≤ ((5 * i) + k) ∧ ((5 * i) + k) < (200 : Int)) ∧ (zI ((5 * i) + k) ∧ (zI ((5 * i) + k) ∧ (zI (((5 * i) + k) - (1 : Int)) ∧ ((0 ≤ (((5 * i) + k) - (1 : Int)) ∧ (((5 * i) + k) - (1 : Int)) < (200 : Int)) ∧ ((0 ≤ ((5 * i) + k) ∧ ((5 * i) + k) < (200 : Int)) ∧ (zI ((5 * i) + k) ∧ (zI ((5 * i) + k) ∧ (zI (((5 * i) + k) - (1 : Int)) ∧ ((0 ≤ (((5 * i) + k) - (1 : Int)) ∧ (((5 * i) + k) - (1 : Int)) < (200 : Int)) ∧ ((0 ≤ ((5 * i) + k) ∧ ((5 * i) + k) < (200 : Int)) ∧ (zI (k + (-1 : Int)) ∧ zRuns 140 zX0 (fun (v : Int) (u : zS) => zNK τ u i c (zrt f m9) (m9 : Int)) 13 [some (.inr (.inr (9, 0))), some (.inl i), some (.inl c), some (.inr (.inl (zrt f m9))), none, some (.inl (m9 : Int)), some (.inl (5 * i)), some (.inl (k + (-1 : Int)))] [] (zup (zup (zup u1 57 ((5 * i) + k) (u1 57 (((5 * i) + k) - (1 : Int)))) 58 ((5 * i) + k) (u1 58 (((5 * i) + k) - (1 : Int)))) 59 ((5 * i) + k) (u1 59 (((5 * i) + k) - (1 : Int)))))))))))))))))))))))))))))))))))))))))))
    refine ⟨?_, ?_⟩
    · intro h1
      exact lp_k161 hi hN hf hm12 hv k0 hfr f1 f2 f3 (Or.inl (by omega))
    · intro h2
      refine ⟨by (first | exact ⟨by omega, by omega⟩ | (exfalso; omega)), ?_⟩
      refine ⟨by (first | exact ⟨by omega, by omega⟩ | (exfalso; omega)), ?_⟩
      refine ⟨by (first | exact ⟨by omega, by omega⟩ | (exfalso; omega)), ?_⟩
      refine ⟨?_, ?_⟩
      · intro h3
        refine ⟨?_, ?_⟩
        · intro h4
          refine ⟨by (first | exact ⟨by omega, by omega⟩ | (exfalso; omega)), ?_⟩
          have e9 := f1 (k - 1) (by omega) (by omega) (by omega)
          rw [show 5 * i + (k - 1) = 5 * i + k - 1 by omega] at e9
          have hz : zbe c (zlc f m9) (τ 57 (5 * i + k - 1)) (zlf (τ 58 (5 * i + k - 1)) (τ 59 (5 * i + k - 1))) := by
            rw [← e9.1]
            exact Or.inl (by assumption)
          refine ih (k + -1) _ (by omega) ⟨by omega, by omega⟩ hfr (fun j j0 j1 j2 => f1 j j0 (by omega) j2) (fun j j0 j1 j2 => f2 j (by omega) j1 j2) (fun j j0 j1 => ?_)
          by_cases e : j = k - 1
          · rw [e, show 5 * i + (k - 1) = 5 * i + k - 1 by omega]; exact hz
          · exact f3 j (by omega) j1
        · intro h5
          refine ⟨by (first | exact ⟨by omega, by omega⟩ | (exfalso; omega)), ?_⟩
          refine ⟨by (first | exact ⟨by omega, by omega⟩ | (exfalso; omega)), ?_⟩
          refine ⟨by (first | exact ⟨by omega, by omega⟩ | (exfalso; omega)), ?_⟩
          refine ⟨by (first | exact ⟨by omega, by omega⟩ | (exfalso; omega)), ?_⟩
          refine ⟨by (first | exact ⟨by omega, by omega⟩ | (exfalso; omega)), ?_⟩
          refine ⟨by (first | exact ⟨by omega, by omega⟩ | (exfalso; omega)), ?_⟩
          refine ⟨by (first | exact ⟨by omega, by omega⟩ | (exfalso; omega)), ?_⟩
          refine ⟨by (first | exact ⟨by omega, by omega⟩ | (exfalso; omega)), ?_⟩
          refine ⟨by (first | exact ⟨by omega, by omega⟩ | (exfalso; omega)), ?_⟩
          refine ⟨by (first | exact ⟨by omega, by omega⟩ | (exfalso; omega)), ?_⟩
          refine ⟨by (first | exact ⟨by omega, by omega⟩ | (exfalso; omega)), ?_⟩
          refine ⟨by (first | exact ⟨by omega, by omega⟩ | (exfalso; omega)), ?_⟩
          refine ⟨by (first | exact ⟨by omega, by omega⟩ | (exfalso; omega)), ?_⟩
          refine ⟨by (first | exact ⟨by omega, by omega⟩ | (exfalso; omega)), ?_⟩
          refine ⟨by (first | exact ⟨by omega, by omega⟩ | (exfalso; omega)), ?_⟩
          refine ⟨by (first | exact ⟨by omega, by omega⟩ | (exfalso; omega)), ?_⟩
          have e9 := f1 (k - 1) (by omega) (by omega) (by omega)
          rw [show 5 * i + (k - 1) = 5 * i + k - 1 by omega] at e9
          have hz : zbe c (zlc f m9) (τ 57 (5 * i + k - 1)) (zlf (τ 58 (5 * i + k - 1)) (τ 59 (5 * i + k - 1))) := by
            rw [← e9.1]
            exact Or.inl (by assumption)
          have z9 := fun j => z3m (s := t) (p := 5 * i + k) (a := t 57 (5 * i + k - 1)) (b := t 58 (5 * i + k - 1)) (c := t 59 (5 * i + k - 1)) (j := j)
          refine ih (k + -1) _ (by omega) ⟨by omega, by omega⟩ ⟨hfr.1.put ⟨k0.1, by omega⟩, by rw [zup_ne (by decide), zup_ne (by decide), zup_ne (by decide)]; exact hfr.2⟩ (fun j j0 j1 j2 => ?_) (fun j j0 j1 j2 => ?_) (fun j j0 j1 => ?_)
          · unfold zk3
            rw [(z9 _).1, (z9 _).2.1, (z9 _).2.2, if_neg (by omega), if_neg (by omega), if_neg (by omega)]; exact f1 j j0 (by omega) j2
          · unfold zk3
            by_cases e : j = k
            · rw [(z9 _).1, (z9 _).2.1, (z9 _).2.2, if_pos (by omega), if_pos (by omega), if_pos (by omega), e, show 5 * i + (k - 1) = 5 * i + k - 1 by omega]; exact e9
            · rw [(z9 _).1, (z9 _).2.1, (z9 _).2.2, if_neg (by omega), if_neg (by omega), if_neg (by omega)]; exact f2 j (by omega) j1 j2
          · by_cases e : j = k - 1
            · rw [e, show 5 * i + (k - 1) = 5 * i + k - 1 by omega]; exact hz
            · exact f3 j (by omega) j1
      · intro h6
        refine ⟨by (first | exact ⟨by omega, by omega⟩ | (exfalso; omega)), ?_⟩
        refine ⟨by (first | exact ⟨by omega, by omega⟩ | (exfalso; omega)), ?_⟩
        refine ⟨by (first | exact ⟨by omega, by omega⟩ | (exfalso; omega)), ?_⟩
        refine ⟨?_, ?_⟩
        · intro h7
          have e9 := f1 (k - 1) (by omega) (by omega) (by omega)
          rw [show 5 * i + (k - 1) = 5 * i + k - 1 by omega] at e9
          refine lp_k161 hi hN hf hm12 hv k0 hfr f1 f2 f3 (Or.inr ?_)
          rw [show 5 * i + (k - 1) = 5 * i + k - 1 by omega, ← e9.1]
          omega
        · intro h8
          refine ⟨by (first | exact ⟨by omega, by omega⟩ | (exfalso; omega)), ?_⟩
          refine ⟨by (first | exact ⟨by omega, by omega⟩ | (exfalso; omega)), ?_⟩
          refine ⟨by (first | exact ⟨by omega, by omega⟩ | (exfalso; omega)), ?_⟩
          refine ⟨by (first | exact ⟨by omega, by omega⟩ | (exfalso; omega)), ?_⟩
          refine ⟨by (first | exact ⟨by omega, by omega⟩ | (exfalso; omega)), ?_⟩
          refine ⟨by (first | exact ⟨by omega, by omega⟩ | (exfalso; omega)), ?_⟩
          obtain ⟨g, q9, hg, hq9, hx1, hx2⟩ : zvw (t 58 (5 * i + k - 1)) (t 59 (5 * i + k - 1)) := by
            have e9 := f1 (k - 1) (by omega) (by omega) (by omega)
            rw [show 5 * i + (k - 1) = 5 * i + k - 1 by omega] at e9
            rw [e9.2.1, e9.2.2]
            have v9 := hv (k - 1) (by omega) (by omega)
            rw [show 5 * i + (k - 1) = 5 * i + k - 1 by omega] at v9
            exact v9
          rw [hx1, hx2]
          refine ⟨_, am_X9_isAhead (f := f) (g := g) (n9 := m9) (m9 := q9) (hf) (hg) (hm12) (hq9.2), ?_⟩
          intro v1 u1 hv1
          rintro ⟨rfl, (⟨rfl, cv1⟩ | ⟨rfl, cv1⟩)⟩
          · refine ⟨?_, ?_⟩
            · exact fun h => absurd h (by decide)
            · intro _
              refine ⟨?_, ?_⟩
              · intro h10
                refine ⟨by (first | exact ⟨by omega, by omega⟩ | (exfalso; omega)), ?_⟩
                have e9 := f1 (k - 1) (by omega) (by omega) (by omega)
                rw [show 5 * i + (k - 1) = 5 * i + k - 1 by omega] at e9
                have hz : zbe c (zlc f m9) (τ 57 (5 * i + k - 1)) (zlf (τ 58 (5 * i + k - 1)) (τ 59 (5 * i + k - 1))) := by
                  rw [← e9.1, ← e9.2.1, ← e9.2.2, hx1, hx2, zlf_lc]
                  exact Or.inr ⟨by omega, cv1⟩
                refine ih (k + -1) _ (by omega) ⟨by omega, by omega⟩ hfr (fun j j0 j1 j2 => f1 j j0 (by omega) j2) (fun j j0 j1 j2 => f2 j (by omega) j1 j2) (fun j j0 j1 => ?_)
                by_cases e : j = k - 1
                · rw [e, show 5 * i + (k - 1) = 5 * i + k - 1 by omega]; exact hz
                · exact f3 j (by omega) j1
              · intro h11
                refine ⟨by (first | exact ⟨by omega, by omega⟩ | (exfalso; omega)), ?_⟩
                refine ⟨by (first | exact ⟨by omega, by omega⟩ | (exfalso; omega)), ?_⟩
                refine ⟨by (first | exact ⟨by omega, by omega⟩ | (exfalso; omega)), ?_⟩
                refine ⟨by (first | exact ⟨by omega, by omega⟩ | (exfalso; omega)), ?_⟩
                refine ⟨by (first | exact ⟨by omega, by omega⟩ | (exfalso; omega)), ?_⟩
                refine ⟨by (first | exact ⟨by omega, by omega⟩ | (exfalso; omega)), ?_⟩
                refine ⟨by (first | exact ⟨by omega, by omega⟩ | (exfalso; omega)), ?_⟩
                refine ⟨by (first | exact ⟨by omega, by omega⟩ | (exfalso; omega)), ?_⟩
                refine ⟨by (first | exact ⟨by omega, by omega⟩ | (exfalso; omega)), ?_⟩
                refine ⟨by (first | exact ⟨by omega, by omega⟩ | (exfalso; omega)), ?_⟩
                refine ⟨by (first | exact ⟨by omega, by omega⟩ | (exfalso; omega)), ?_⟩
                refine ⟨by (first | exact ⟨by omega, by omega⟩ | (exfalso; omega)), ?_⟩
                refine ⟨by (first | exact ⟨by omega, by omega⟩ | (exfalso; omega)), ?_⟩
                refine ⟨by (first | exact ⟨by omega, by omega⟩ | (exfalso; omega)), ?_⟩
                refine ⟨by (first | exact ⟨by omega, by omega⟩ | (exfalso; omega)), ?_⟩
                refine ⟨by (first | exact ⟨by omega, by omega⟩ | (exfalso; omega)), ?_⟩
                have e9 := f1 (k - 1) (by omega) (by omega) (by omega)
                rw [show 5 * i + (k - 1) = 5 * i + k - 1 by omega] at e9
                have hz : zbe c (zlc f m9) (τ 57 (5 * i + k - 1)) (zlf (τ 58 (5 * i + k - 1)) (τ 59 (5 * i + k - 1))) := by
                  rw [← e9.1, ← e9.2.1, ← e9.2.2, hx1, hx2, zlf_lc]
                  exact Or.inr ⟨by omega, cv1⟩
                have z9 := fun j => z3m (s := t) (p := 5 * i + k) (a := t 57 (5 * i + k - 1)) (b := t 58 (5 * i + k - 1)) (c := t 59 (5 * i + k - 1)) (j := j)
                refine ih (k + -1) _ (by omega) ⟨by omega, by omega⟩ ⟨hfr.1.put ⟨k0.1, by omega⟩, by rw [zup_ne (by decide), zup_ne (by decide), zup_ne (by decide)]; exact hfr.2⟩ (fun j j0 j1 j2 => ?_) (fun j j0 j1 j2 => ?_) (fun j j0 j1 => ?_)
                · unfold zk3
                  rw [(z9 _).1, (z9 _).2.1, (z9 _).2.2, if_neg (by omega), if_neg (by omega), if_neg (by omega)]; exact f1 j j0 (by omega) j2
                · unfold zk3
                  by_cases e : j = k
                  · rw [(z9 _).1, (z9 _).2.1, (z9 _).2.2, if_pos (by omega), if_pos (by omega), if_pos (by omega), e, show 5 * i + (k - 1) = 5 * i + k - 1 by omega]; exact e9
                  · rw [(z9 _).1, (z9 _).2.1, (z9 _).2.2, if_neg (by omega), if_neg (by omega), if_neg (by omega)]; exact f2 j (by omega) j1 j2
                · by_cases e : j = k - 1
                  · rw [e, show 5 * i + (k - 1) = 5 * i + k - 1 by omega]; exact hz
                  · exact f3 j (by omega) j1
          · refine ⟨?_, ?_⟩
            · intro _
              have e9 := f1 (k - 1) (by omega) (by omega) (by omega)
              rw [show 5 * i + (k - 1) = 5 * i + k - 1 by omega] at e9
              refine lp_k161 hi hN hf hm12 hv k0 hfr f1 f2 f3 (Or.inr ?_)
              rw [show 5 * i + (k - 1) = 5 * i + k - 1 by omega, ← e9.1, ← e9.2.1, ← e9.2.2, hx1, hx2, zlf_lc]
              omega
            · exact fun h => absurd h (by decide)
set_option maxRecDepth 100000 in
set_option maxHeartbeats 4000000 in
theorem am_X9_keep {σ : zS} {i : Int} {c : Int} {f : Nat → Int} {m9 : Nat} {S : Int → Int → Prop} (hi : 0 ≤ i ∧ i < 40) (hf : zlet f m9) (hm : 1 ≤ m9 ∧ m9 ≤ 12) (hT : zKP σ i S) (hx : ∀ d, ¬ S (zlc f m9) d) : zAM 140 [.inr (.inr (9, 0)), .inl i, .inl c, .inr (.inl (zrt f m9)), .inl (m9 : Int)] σ (fun (v : Int) (u : zS) => zKG σ u i ∧ zKP u i (fun y e => S y e ∨ y = zlc f m9 ∧ e = c)) := by
  refine zam (by decide) (Nat.le_of_ble_eq_true rfl) ?_
  refine zwalk zmk_140 [(13, [true, true, true, true, false, true, true, true]), (161, [true, true, true, true, false, true, true, true])] 2 ?_
  show (zI ((5 : Int) * i) ∧ ((0 ≤ i ∧ i < (40 : Int)) ∧ zRuns 140 zX0 (fun (v : Int) (u : zS) => zKG σ u i ∧ zKP u i (fun y e => S y e ∨ y = zlc f m9 ∧ e = c)) 13 [some (.inr (.inr (9, 0))), some (.inl i), some (.inl c), some (.inr (.inl (zrt f m9))), none, some (.inl (m9 : Int)), some (.inl ((5 : Int) * i)), some (.inl (σ 56 i))] [] σ))
  refine ⟨by (first | exact ⟨by omega, by omega⟩ | (exfalso; omega)), ?_⟩
  refine ⟨by (first | exact ⟨by omega, by omega⟩ | (exfalso; omega)), ?_⟩
  have hn := hT.1.1
  refine (lp_k13 (τ := σ) hi hn hf hm.2 hT.2 ((σ 56 i).toNat + 1) (σ 56 i) σ (by omega) ⟨hn.1, by omega⟩ ⟨zKG.rf, rfl⟩ (fun j _ _ _ => zk3.rf) (fun j j0 j1 => by omega) (fun j j0 j1 => by omega)).mono (fun v u q => ⟨q.1, ?_⟩)
  have ht := zNK_top hT q ⟨f, m9, hf, hm, rfl, rfl⟩ (by rw [zlf_lc]; exact hx)
  rw [zlf_lc] at ht
  exact ht
