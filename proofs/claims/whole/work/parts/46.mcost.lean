/-! the model's cost of a letter, isAhead -/
/-- is there a dot on one of the n pieces from a on -/
def zhd (o : Int → Int) (a : Int) : Nat → Bool
  | 0 => false
  | n + 1 => zhd o a n || decide (0 < o (a + n))
theorem zhd_iff {o : Int → Int} {a : Int} : ∀ {n : Nat}, zhd o a n = true ↔ ∃ j : Int, 0 ≤ j ∧ j < n ∧ 0 < o (a + j)
  | 0 => by
    constructor
    · intro h; exact absurd (show false = true from h) (by decide)
    · rintro ⟨j, j0, j1, -⟩; omega
  | n + 1 => by
    unfold zhd
    rw [Bool.or_eq_true, zhd_iff (n := n), decide_eq_true_eq]
    constructor
    · rintro (⟨j, j0, j1, h⟩ | h)
      · exact ⟨j, j0, by omega, h⟩
      · exact ⟨n, by omega, by omega, h⟩
    · rintro ⟨j, j0, j1, h⟩
      by_cases e : j = n
      · rw [e] at h; exact Or.inr h
      · exact Or.inl ⟨j, j0, by omega, h⟩
/-- the cost of a letter over a count, dots or none -/
def zct (l cnt : Int) (d : Bool) : Int := 12 / (cnt + 1) + zdot l (if d then 1 else 0)
def zsq (σ : zS) (l a n : Int) : Int := 1884 * l + zsh n (σ 42 a) (if 1 < n then σ 42 (a + 1) else 0) (if 2 < n then σ 42 (a + 2) else 0)
def zmc (σ : zS) (l a n : Int) : Int := if σ 47 (zsq σ l a n) = 0 then 1000000000 else zct l (σ 47 (zsq σ l a n)) (zhd (σ 43) a n.toNat)
theorem zct_r {l cnt : Int} {d : Bool} (h : 1 ≤ cnt) : 0 ≤ zct l cnt d ∧ zct l cnt d ≤ 11 := by
  have h1 : 12 / (cnt + 1) ≤ 6 := by
    have h3 : cnt + 1 ≥ 2 := by omega
    have h4 : (cnt + 1) * (12 / (cnt + 1)) ≤ 12 := Int.mul_ediv_self_le (by omega)
    have h5 : 0 ≤ 12 / (cnt + 1) := Int.ediv_nonneg (by decide) (by omega)
    have h6 := Int.mul_le_mul_of_nonneg_right h3 h5
    omega
  have h2 : 0 ≤ 12 / (cnt + 1) := Int.ediv_nonneg (by decide) (by omega)
  unfold zct zdot
  split <;> split <;> (try split) <;> omega
theorem z12 {c : Int} (h : 1 ≤ c) : 0 ≤ 12 / (1 + c) ∧ 12 / (1 + c) ≤ 6 := by
  have h4 : (1 + c) * (12 / (1 + c)) ≤ 12 := Int.mul_ediv_self_le (by omega)
  have h5 : 0 ≤ 12 / (1 + c) := Int.ediv_nonneg (by decide) (by omega)
  have h6 := Int.mul_le_mul_of_nonneg_right (show 2 ≤ 1 + c by omega) h5
  omega
theorem zct_v {l c d : Int} {b : Bool} (hd : d = 1 ∧ b = true ∨ d = 0 ∧ b = false) : zct l c b = 12 / (1 + c) + (if (l = 8 ∨ l = 9) ∧ d = 0 then 5 else if ¬ (l = 8 ∨ l = 9) ∧ d = 1 then 4 else 0) := by
  unfold zct zdot
  rw [Int.add_comm c 1]
  rcases hd with ⟨rfl, rfl⟩ | ⟨rfl, rfl⟩ <;> rfl
theorem zhd_s {o : Int → Int} {a j : Int} (h : a ≤ j) : zhd o a (j + 1 - a).toNat = (zhd o a (j - a).toNat || decide (0 < o j)) := by
  obtain ⟨n, e⟩ : ∃ n : Nat, j = a + n := ⟨(j - a).toNat, by omega⟩
  subst e
  rw [show (a + (n : Int) + 1 - a).toNat = n + 1 by omega, show (a + (n : Int) - a).toNat = n by omega]
  rfl
set_option maxRecDepth 100000 in
set_option maxHeartbeats 4000000 in
theorem lp_mcost {l : Int} {a : Int} {m : Int} {c : Int} {σ : zS} (ha : 0 ≤ a ∧ a + m ≤ 40) (hm : 1 ≤ m ∧ m ≤ 3) (hc : 1 ≤ c ∧ c ≤ 999) : ∀ (n : Nat) (j : Int) (d : Int), a + m - j < (n : Int) → (a ≤ j ∧ j ≤ a + m) → (d = 1 ∧ zhd (σ 43) a (j - a).toNat = true ∨ d = 0 ∧ zhd (σ 43) a (j - a).toNat = false) → zRuns 132 zX0 (fun (v : Int) (u : zS) => σ = u ∧ zct l c (zhd (σ 43) a m.toNat) = v) 71 [some (.inr (.inr (9, 0))), some (.inl l), some (.inl a), some (.inl m), some (.inl c), some (.inl d), some (.inl j)] [] σ := by
  intro n
  induction n with
  | zero =>
    intro j d hn j0 hd
    exfalso
    omega
  | succ n ih =>
    intro j d hn j0 hd
    refine zwalk zmk_132 [(71, [true, true, true, true, true, true, true])] 7 ?_
    show (zI (a + m) ∧ (((a + m) ≤ j → ((l = (8 : Int) → (zI ((1 : Int) + c) ∧ ((0 ≤ (12 : Int) ∧ 0 < ((1 : Int) + c)) ∧ (((1 : Int) = 0 → (zI (((12 : Int) / ((1 : Int) + c)) + (0 : Int)) ∧ ((¬ (1 : Int) = 0 → (zI ((((12 : Int) / ((1 : Int) + c)) + (0 : Int)) + (0 : Int)) ∧ (σ = σ ∧ zct l c (zhd (σ 43) a m.toNat) = ((((12 : Int) / ((1 : Int) + c)) + (0 : Int)) + (0 : Int))))) ∧ ((1 : Int) = 0 → ((d = 0 → (zI ((((12 : Int) / ((1 : Int) + c)) + (0 : Int)) + (0 : Int)) ∧ (σ = σ ∧ zct l c (zhd (σ 43) a m.toNat) = ((((12 : Int) / ((1 : Int) + c)) + (0 : Int)) + (0 : Int))))) ∧ (¬ d = 0 → (zI ((((12 : Int) / ((1 : Int) + c)) + (0 : Int)) + (4 : Int)) ∧ (σ = σ ∧ zct l c (zhd (σ 43) a m.toNat) = ((((12 : Int) / ((1 : Int) + c)) + (0 : Int)) + (4 : Int)))))))))) ∧ (¬ (1 : Int) = 0 → ((¬ d = 0 → (zI (((12 : Int) / ((1 : Int) + c)) + (0 : Int)) ∧ ((¬ (1 : Int) = 0 → (zI ((((12 : Int) / ((1 : Int) + c)) + (0 : Int)) + (0 : Int)) ∧ (σ = σ ∧ zct l c (zhd (σ 43) a m.toNat) = ((((12 : Int) / ((1 : Int) + c)) + (0 : Int)) + (0 : Int))))) ∧ ((1 : Int) = 0 → ((d = 0 → (zI ((((12 : Int) / ((1 : Int) + c)) + (0 : Int)) + (0 : Int)) ∧ (σ = σ ∧ zct l c (zhd (σ 43) a m.toNat) = ((((12 : Int) / ((1 : Int) + c)) + (0 : Int)) + (0 : Int))))) ∧ (¬ d = 0 → (zI ((((12 : Int) / ((1 : Int) + c)) + (0 : Int)) + (4 : Int)) ∧ (σ = σ ∧ zct l c (zhd (σ 43) a m.toNat) = ((((12 : Int) / ((1 : Int) + c)) + (0 : Int)) + (4 : Int)))))))))) ∧ (d = 0 → (zI (((12 : Int) / ((1 : Int) + c)) + (5 : Int)) ∧ ((¬ (1 : Int) = 0 → (zI ((((12 : Int) / ((1 : Int) + c)) + (5 : Int)) + (0 : Int)) ∧ (σ = σ ∧ zct l c (zhd (σ 43) a m.toNat) = ((((12 : Int) / ((1 : Int) + c)) + (5 : Int)) + (0 : Int))))) ∧ ((1 : Int) = 0 → ((d = 0 → (zI ((((12 : Int) / ((1 : Int) + c)) + (5 : Int)) + (0 : Int)) ∧ (σ = σ ∧ zct l c (zhd (σ 43) a m.toNat) = ((((12 : Int) / ((1 : Int) + c)) + (5 : Int)) + (0 : Int))))) ∧ (¬ d = 0 → (zI ((((12 : Int) / ((1 : Int) + c)) + (5 : Int)) + (4 : Int)) ∧ (σ = σ ∧ zct l c (zhd (σ 43) a m.toNat) = ((((12 : Int) / ((1 : Int) + c)) + (5 : Int)) + (4 : Int)))))))))))))))) ∧ (¬ l = (8 : Int) → ((¬ l = (9 : Int) → (zI ((1 : Int) + c) ∧ ((0 ≤ (12 : Int) ∧ 0 < ((1 : Int) + c)) ∧ (((0 : Int) = 0 → (zI (((12 : Int) / ((1 : Int) + c)) + (0 : Int)) ∧ ((¬ (0 : Int) = 0 → (zI ((((12 : Int) / ((1 : Int) + c)) + (0 : Int)) + (0 : Int)) ∧ (σ = σ ∧ zct l c (zhd (σ 43) a m.toNat) = ((((12 : Int) / ((1 : Int) + c)) + (0 : Int)) + (0 : Int))))) ∧ ((0 : Int) = 0 → ((d = 0 → (zI ((((12 : Int) / ((1 : Int) + c)) + (0 : Int)) + (0 : Int)) ∧ (σ = σ ∧ zct l c (zhd (σ 43) a m.toNat) = ((((12 : Int) / ((1 : Int) + c)) + (0 : Int)) + (0 : Int))))) ∧ (¬ d = 0 → (zI ((((12 : Int) / ((1 : Int) + c)) + (0 : Int)) + (4 : Int)) ∧ (σ = σ ∧ zct l c (zhd (σ 43) a m.toNat) = ((((12 : Int) / ((1 : Int) + c)) + (0 : Int)) + (4 : Int)))))))))) ∧ (¬ (0 : Int) = 0 → ((¬ d = 0 → (zI (((12 : Int) / ((1 : Int) + c)) + (0 : Int)) ∧ ((¬ (0 : Int) = 0 → (zI ((((12 : Int) / ((1 : Int) + c)) + (0 : Int)) + (0 : Int)) ∧ (σ = σ ∧ zct l c (zhd (σ 43) a m.toNat) = ((((12 : Int) / ((1 : Int) + c)) + (0 : Int)) + (0 : Int))))) ∧ ((0 : Int) = 0 → ((d = 0 → (zI ((((12 : Int) / ((1 : Int) + c)) + (0 : Int)) + (0 : Int)) ∧ (σ = σ ∧ zct l c (zhd (σ 43) a m.toNat) = ((((12 : Int) / ((1 : Int) + c)) + (0 : Int)) + (0 : Int))))) ∧ (¬ d = 0 → (zI ((((12 : Int) / ((1 : Int) + c)) + (0 : Int)) + (4 : Int)) ∧ (σ = σ ∧ zct l c (zhd (σ 43) a m.toNat) = ((((12 : Int) / ((1 : Int) + c)) + (0 : Int)) + (4 : Int)))))))))) ∧ (d = 0 → (zI (((12 : Int) / ((1 : Int) + c)) + (5 : Int)) ∧ ((¬ (0 : Int) = 0 → (zI ((((12 : Int) / ((1 : Int) + c)) + (5 : Int)) + (0 : Int)) ∧ (σ = σ ∧ zct l c (zhd (σ 43) a m.toNat) = ((((12 : Int) / ((1 : Int) + c)) + (5 : Int)) + (0 : Int))))) ∧ ((0 : Int) = 0 → ((d = 0 → (zI ((((12 : Int) / ((1 : Int) + c)) + (5 : Int)) + (0 : Int)) ∧ (σ = σ ∧ zct l c (zhd (σ 43) a m.toNat) = ((((12 : Int) / ((1 : Int) + c)) + (5 : Int)) + (0 : Int))))) ∧ (¬ d = 0 → (zI ((((12 : Int) / ((1 : Int) + c)) + (5 : Int)) + (4 : Int)) ∧ (σ = σ ∧ zct l c (zhd (σ 43) a m.toNat) = ((((12 : Int) / ((1 : Int) + c)) + (5 : Int)) + (4 : Int)))))))))))))))) ∧ (l = (9 : Int) → (zI ((1 : Int) + c) ∧ ((0 ≤ (12 : Int) ∧ 0 < ((1 : Int) + c)) ∧ (((1 : Int) = 0 → (zI (((12 : Int) / ((1 : Int) + c)) + (0 : Int)) ∧ ((¬ (1 : Int) = 0 → (zI ((((12 : Int) / ((1 : Int) + c)) + (0 : Int)) + (0 : Int)) ∧ (σ = σ ∧ zct l c (zhd (σ 43) a m.toNat) = ((((12 : Int) / ((1 : Int) + c)) + (0 : Int)) + (0 : Int))))) ∧ ((1 : Int) = 0 → ((d = 0 → (zI ((((12 : Int) / ((1 : Int) + c)) + (0 : Int)) + (0 : Int)) ∧ (σ = σ ∧ zct l c (zhd (σ 43) a m.toNat) = ((((12 : Int) / ((1 : Int) + c)) + (0 : Int)) + (0 : Int))))) ∧ (¬ d = 0 → (zI ((((12 : Int) / ((1 : Int) + c)) + (0 : Int)) + (4 : Int)) ∧ (σ = σ ∧ zct l c (zhd (σ 43) a m.toNat) = ((((12 : Int) / ((1 : Int) + c)) + (0 : Int)) + (4 : Int)))))))))) ∧ (¬ (1 : Int) = 0 → ((¬ d = 0 → (zI (((12 : Int) / ((1 : Int) + c)) + (0 : Int)) ∧ ((¬ (1 : Int) = 0 → (zI ((((12 : Int) / ((1 : Int) + c)) + (0 : Int)) + (0 : Int)) ∧ (σ = σ ∧ zct l c (zhd (σ 43) a m.toNat) = ((((12 : Int) / ((1 : Int) + c)) + (0 : Int)) + (0 : Int))))) ∧ ((1 : Int) = 0 → ((d = 0 → (zI ((((12 : Int) / ((1 : Int) + c)) + (0 : Int)) + (0 : Int)) ∧ (σ = σ ∧ zct l c (zhd (σ 43) a m.toNat) = ((((12 : Int) / ((1 : Int) + c)) + (0 : Int)) + (0 : Int))))) ∧ (¬ d = 0 → (zI ((((12 : Int) / ((1 : Int) + c)) + (0 : Int)) + (4 : Int)) ∧ (σ = σ ∧ zct l c (zhd (σ 43) a m.toNat) = ((((12 : Int) / ((1 : Int) + c)) + (0 : Int)) + (4 : Int)))))))))) ∧ (d = 0 → (zI (((12 : Int) / ((1 : Int) + c)) + (5 : Int)) ∧ ((¬ (1 : Int) = 0 → (zI ((((12 : Int) / ((1 : Int) + c)) + (5 : Int)) + (0 : Int)) ∧ (σ = σ ∧ zct l c (zhd (σ 43) a m.toNat) = ((((12 : Int) / ((1 : Int) + c)) + (5 : Int)) + (0 : Int))))) ∧ ((1 : Int) = 0 → ((d = 0 → (zI ((((12 : Int) / ((1 : Int) + c)) + (5 : Int)) + (0 : Int)) ∧ (σ = σ ∧ zct l c (zhd (σ 43) a m.toNat) = ((((12 : Int) / ((1 : Int) + c)) + (5 : Int)) + (0 : Int))))) ∧ (¬ d = 0 → (zI ((((12 : Int) / ((1 : Int) + c)) + (5 : Int)) + (4 : Int)) ∧ (σ = σ ∧ zct l c (zhd (σ 43) a m.toNat) = ((((12 : Int) / ((1 : Int) + c)) + (5 : Int)) + (4 : Int)))))))))))))))))))) ∧ (j < (a + m) → ((¬ d = 0 → (zI (j + (1 : Int)) ∧ zRuns 132 zX0 (fun (v : Int) (u : zS) => σ = u ∧ zct l c (zhd (σ 43) a m.toNat) = v) 71 [some (.inr (.inr (9, 0))), some (.inl l), some (.inl a), some (.inl m), some (.inl c), some (.inl (1 : Int)), some (.inl (j + (1 : Int)))] [] σ)) ∧ (d = 0 → ((0 ≤ j ∧ j < (40 : Int)) ∧ (((σ 43 j) ≤ 0 → (zI (j + (1 : Int)) ∧ zRuns 132 zX0 (fun (v : Int) (u : zS) => σ = u ∧ zct l c (zhd (σ 43) a m.toNat) = v) 71 [some (.inr (.inr (9, 0))), some (.inl l), some (.inl a), some (.inl m), some (.inl c), some (.inl (0 : Int)), some (.inl (j + (1 : Int)))] [] σ)) ∧ (0 < (σ 43 j) → (zI (j + (1 : Int)) ∧ zRuns 132 zX0 (fun (v : Int) (u : zS) => σ = u ∧ zct l c (zhd (σ 43) a m.toNat) = v) 71 [some (.inr (.inr (9, 0))), some (.inl l), some (.inl a), some (.inl m), some (.inl c), some (.inl (1 : Int)), some (.inl (j + (1 : Int)))] [] σ)))))))))
    have q12 := z12 hc.1
    have zs := zhd_s (o := σ 43) j0.1
    refine ⟨by (first | exact ⟨by omega, by omega⟩ | (exfalso; omega)), ?_⟩
    refine ⟨?_, ?_⟩
    · intro h1
      refine ⟨?_, ?_⟩
      · intro h2
        refine ⟨by (first | exact ⟨by omega, by omega⟩ | (exfalso; omega)), ?_⟩
        refine ⟨by (first | exact ⟨by omega, by omega⟩ | (exfalso; omega)), ?_⟩
        refine ⟨?_, ?_⟩
        · exact fun h => absurd h (by decide)
        · intro _
          refine ⟨?_, ?_⟩
          · intro h4
            refine ⟨by (first | exact ⟨by omega, by omega⟩ | (exfalso; omega)), ?_⟩
            refine ⟨?_, ?_⟩
            · intro _
              refine ⟨by (first | exact ⟨by omega, by omega⟩ | (exfalso; omega)), ?_⟩
              have ej : (j - a).toNat = m.toNat := by omega
              rw [ej] at hd
              refine ⟨rfl, ?_⟩
              rw [zct_v hd]
              split
              · omega
              · split <;> omega
            · exact fun h => absurd h (by decide)
          · intro h6
            refine ⟨by (first | exact ⟨by omega, by omega⟩ | (exfalso; omega)), ?_⟩
            refine ⟨?_, ?_⟩
            · intro _
              refine ⟨by (first | exact ⟨by omega, by omega⟩ | (exfalso; omega)), ?_⟩
              have ej : (j - a).toNat = m.toNat := by omega
              rw [ej] at hd
              refine ⟨rfl, ?_⟩
              rw [zct_v hd]
              split
              · omega
              · split <;> omega
            · exact fun h => absurd h (by decide)
      · intro h8
        refine ⟨?_, ?_⟩
        · intro h9
          refine ⟨by (first | exact ⟨by omega, by omega⟩ | (exfalso; omega)), ?_⟩
          refine ⟨by (first | exact ⟨by omega, by omega⟩ | (exfalso; omega)), ?_⟩
          refine ⟨?_, ?_⟩
          · intro _
            refine ⟨by (first | exact ⟨by omega, by omega⟩ | (exfalso; omega)), ?_⟩
            refine ⟨?_, ?_⟩
            · exact fun h => absurd h (by decide)
            · intro _
              refine ⟨?_, ?_⟩
              · intro h12
                refine ⟨by (first | exact ⟨by omega, by omega⟩ | (exfalso; omega)), ?_⟩
                have ej : (j - a).toNat = m.toNat := by omega
                rw [ej] at hd
                refine ⟨rfl, ?_⟩
                rw [zct_v hd]
                split
                · omega
                · split <;> omega
              · intro h13
                refine ⟨by (first | exact ⟨by omega, by omega⟩ | (exfalso; omega)), ?_⟩
                have ej : (j - a).toNat = m.toNat := by omega
                rw [ej] at hd
                refine ⟨rfl, ?_⟩
                rw [zct_v hd]
                split
                · omega
                · split <;> omega
          · exact fun h => absurd h (by decide)
        · intro h14
          refine ⟨by (first | exact ⟨by omega, by omega⟩ | (exfalso; omega)), ?_⟩
          refine ⟨by (first | exact ⟨by omega, by omega⟩ | (exfalso; omega)), ?_⟩
          refine ⟨?_, ?_⟩
          · exact fun h => absurd h (by decide)
          · intro _
            refine ⟨?_, ?_⟩
            · intro h16
              refine ⟨by (first | exact ⟨by omega, by omega⟩ | (exfalso; omega)), ?_⟩
              refine ⟨?_, ?_⟩
              · intro _
                refine ⟨by (first | exact ⟨by omega, by omega⟩ | (exfalso; omega)), ?_⟩
                have ej : (j - a).toNat = m.toNat := by omega
                rw [ej] at hd
                refine ⟨rfl, ?_⟩
                rw [zct_v hd]
                split
                · omega
                · split <;> omega
              · exact fun h => absurd h (by decide)
            · intro h18
              refine ⟨by (first | exact ⟨by omega, by omega⟩ | (exfalso; omega)), ?_⟩
              refine ⟨?_, ?_⟩
              · intro _
                refine ⟨by (first | exact ⟨by omega, by omega⟩ | (exfalso; omega)), ?_⟩
                have ej : (j - a).toNat = m.toNat := by omega
                rw [ej] at hd
                refine ⟨rfl, ?_⟩
                rw [zct_v hd]
                split
                · omega
                · split <;> omega
              · exact fun h => absurd h (by decide)
    · intro h20
      refine ⟨?_, ?_⟩
      · intro h21
        refine ⟨by (first | exact ⟨by omega, by omega⟩ | (exfalso; omega)), ?_⟩
        exact ih _ _ (by omega) (by omega) (Or.inl ⟨rfl, by rw [zs]; rcases hd with ⟨_, q⟩ | ⟨q, _⟩ <;> first | (rw [q]; rfl) | omega⟩)
      · intro h22
        refine ⟨by (first | exact ⟨by omega, by omega⟩ | (exfalso; omega)), ?_⟩
        refine ⟨?_, ?_⟩
        · intro h23
          refine ⟨by (first | exact ⟨by omega, by omega⟩ | (exfalso; omega)), ?_⟩
          exact ih _ _ (by omega) (by omega) (Or.inr ⟨rfl, by rw [zs]; rcases hd with ⟨q, _⟩ | ⟨_, q⟩ <;> first | omega | (rw [q, decide_eq_false (by omega)]; rfl)⟩)
        · intro h24
          refine ⟨by (first | exact ⟨by omega, by omega⟩ | (exfalso; omega)), ?_⟩
          exact ih _ _ (by omega) (by omega) (Or.inl ⟨rfl, by rw [zs, decide_eq_true (by assumption), Bool.or_true]⟩)
set_option maxRecDepth 100000 in
set_option maxHeartbeats 4000000 in
theorem am_X9_cost {σ : zS} {l : Int} {a : Int} {m : Int} (ha : 0 ≤ a ∧ a + m ≤ 40) (hm : 1 ≤ m ∧ m ≤ 3) (hl : 0 ≤ l ∧ l < 26) (hs : ∀ j : Int, a ≤ j → j < a + m → 0 ≤ σ 42 j ∧ σ 42 j < 12) (hc : ∀ j : Int, 0 ≤ j → j < 49660 → 0 ≤ σ 47 j ∧ σ 47 j ≤ 999) : zAM 132 [.inr (.inr (9, 0)), .inl l, .inl a, .inl m] σ (fun (v : Int) (u : zS) => σ = u ∧ zmc σ l a m = v) := by
  refine zam (by decide) (Nat.le_of_ble_eq_true rfl) ?_
  refine zwalk zmk_132 [(71, [true, true, true, true, true, true, true])] 5 ?_
  show (zI ((1884 : Int) * l) ∧ ((0 ≤ a ∧ a < (40 : Int)) ∧ ((m ≤ (1 : Int) → ((m ≤ (2 : Int) → (∃ Rc : Int → zS → Prop, zAM 122 [.inl m, .inl (σ 42 a), .inl (0 : Int), .inl (0 : Int)] σ Rc ∧ ∀ (v1 : Int) (u1 : zS), zI v1 → Rc v1 u1 → (zI (((1884 : Int) * l) + v1) ∧ ((0 ≤ (((1884 : Int) * l) + v1) ∧ (((1884 : Int) * l) + v1) < (49660 : Int)) ∧ ((¬ (u1 47 (((1884 : Int) * l) + v1)) = 0 → zRuns 132 zX0 (fun (v : Int) (u : zS) => σ = u ∧ zmc σ l a m = v) 71 [some (.inr (.inr (9, 0))), some (.inl l), some (.inl a), some (.inl m), some (.inl (u1 47 (((1884 : Int) * l) + v1))), some (.inl (0 : Int)), some (.inl a)] [] u1) ∧ ((u1 47 (((1884 : Int) * l) + v1)) = 0 → (σ = u1 ∧ zmc σ l a m = (1000000000 : Int)))))))) ∧ ((2 : Int) < m → (zI (a + (2 : Int)) ∧ ((0 ≤ (a + (2 : Int)) ∧ (a + (2 : Int)) < (40 : Int)) ∧ (∃ Rc : Int → zS → Prop, zAM 122 [.inl m, .inl (σ 42 a), .inl (0 : Int), .inl (σ 42 (a + (2 : Int)))] σ Rc ∧ ∀ (v2 : Int) (u2 : zS), zI v2 → Rc v2 u2 → (zI (((1884 : Int) * l) + v2) ∧ ((0 ≤ (((1884 : Int) * l) + v2) ∧ (((1884 : Int) * l) + v2) < (49660 : Int)) ∧ ((¬ (u2 47 (((1884 : Int) * l) + v2)) = 0 → zRuns 132 zX0 (fun (v : Int) (u : zS) => σ = u ∧ zmc σ l a m = v) 71 [some (.inr (.inr (9, 0))), some (.inl l), some (.inl a), some (.inl m), some (.inl (u2 47 (((1884 : Int) * l) + v2))), some (.inl (0 : Int)), some (.inl a)] [] u2) ∧ ((u2 47 (((1884 : Int) * l) + v2)) = 0 → (σ = u2 ∧ zmc σ l a m = (1000000000 : Int)))))))))))) ∧ ((1 : Int) < m → (zI (a + (1 : Int)) ∧ ((0 ≤ (a + (1 : Int)) ∧ (a + (1 : Int)) < (40 : Int)) ∧ ((m ≤ (2 : Int) → (∃ Rc : Int → zS → Prop, zAM 122 [.inl m, .inl (σ 42 a), .inl (σ 42 (a + (1 : Int))), .inl (0 : Int)] σ Rc ∧ ∀ (v3 : Int) (u3 : zS), zI v3 → Rc v3 u3 → (zI (((1884 : Int) * l) + v3) ∧ ((0 ≤ (((1884 : Int) * l) + v3) ∧ (((1884 : Int) * l) + v3) < (49660 : Int)) ∧ ((¬ (u3 47 (((1884 : Int) * l) + v3)) = 0 → zRuns 132 zX0 (fun (v : Int) (u : zS) => σ = u ∧ zmc σ l a m = v) 71 [some (.inr (.inr (9, 0))), some (.inl l), some (.inl a), some (.inl m), some (.inl (u3 47 (((1884 : Int) * l) + v3))), some (.inl (0 : Int)), some (.inl a)] [] u3) ∧ ((u3 47 (((1884 : Int) * l) + v3)) = 0 → (σ = u3 ∧ zmc σ l a m = (1000000000 : Int)))))))) ∧ ((2 : Int) < m → (zI (a + (2 : Int)) ∧ ((0 ≤ (a + (2 : Int)) ∧ (a + (2 : Int)) < (40 : Int)) ∧ (∃ Rc : Int → zS → Prop, zAM 122 [.inl m, .inl (σ 42 a), .inl (σ 42 (a + (1 : Int))), .inl (σ 42 (a + (2 : Int)))] σ Rc ∧ ∀ (v4 : Int) (u4 : zS), zI v4 → Rc v4 u4 → (zI (((1884 : Int) * l) + v4) ∧ ((0 ≤ (((1884 : Int) * l) + v4) ∧ (((1884 : Int) * l) + v4) < (49660 : Int)) ∧ ((¬ (u4 47 (((1884 : Int) * l) + v4)) = 0 → zRuns 132 zX0 (fun (v : Int) (u : zS) => σ = u ∧ zmc σ l a m = v) 71 [some (.inr (.inr (9, 0))), some (.inl l), some (.inl a), some (.inl m), some (.inl (u4 47 (((1884 : Int) * l) + v4))), some (.inl (0 : Int)), some (.inl a)] [] u4) ∧ ((u4 47 (((1884 : Int) * l) + v4)) = 0 → (σ = u4 ∧ zmc σ l a m = (1000000000 : Int)))))))))))))))))
  have s0 := hs a (by omega) (by omega)
  have s1 : 1 < m → 0 ≤ σ 42 (a + 1) ∧ σ 42 (a + 1) < 12 := fun q => hs _ (by omega) (by omega)
  have s2 : 2 < m → 0 ≤ σ 42 (a + 2) ∧ σ 42 (a + 2) < 12 := fun q => hs _ (by omega) (by omega)
  refine ⟨by (first | exact ⟨by omega, by omega⟩ | (exfalso; omega)), ?_⟩
  refine ⟨by (first | exact ⟨by omega, by omega⟩ | (exfalso; omega)), ?_⟩
  refine ⟨?_, ?_⟩
  · intro h1
    refine ⟨?_, ?_⟩
    · intro h2
      refine ⟨_, am_X9_shapes (by omega), ?_⟩
      intro v1 u1 hv1
      rintro ⟨rfl, ev1⟩
      obtain ⟨hv1a, hv1b⟩ := hv1
      have es : zsq σ l a m = 1884 * l + v1 := by rw [← ev1]; unfold zsq; split <;> (try split) <;> first | rfl | (exfalso; omega)
      have hzr := zsh_r (m := m) (a := σ 42 a) (b := if 1 < m then σ 42 (a + 1) else 0) (c := if 2 < m then σ 42 (a + 2) else 0) ⟨by omega, by omega, by omega, by omega, by (split <;> omega), by (split <;> omega)⟩
      have hzv : 0 ≤ v1 ∧ v1 < 1884 := by unfold zsq at es; omega
      have hcv := hc (1884 * l + v1) (by omega) (by omega)
      refine ⟨by (first | exact ⟨by omega, by omega⟩ | (exfalso; omega)), ?_⟩
      refine ⟨by (first | exact ⟨by omega, by omega⟩ | (exfalso; omega)), ?_⟩
      refine ⟨?_, ?_⟩
      · intro h3
        refine (lp_mcost ha hm (by omega) (m.toNat + 1) a 0 (by omega) (by omega) (Or.inr ⟨rfl, by rw [show (a - a).toNat = 0 by omega]; rfl⟩)).mono (fun v u q => ⟨q.1, ?_⟩)
        rw [← q.2]
        unfold zmc
        rw [es]
        exact if_neg (by assumption)
      · intro h4
        refine ⟨rfl, ?_⟩
        unfold zmc
        rw [es]
        exact if_pos (by assumption)
    · intro h5
      refine ⟨by (first | exact ⟨by omega, by omega⟩ | (exfalso; omega)), ?_⟩
      refine ⟨by (first | exact ⟨by omega, by omega⟩ | (exfalso; omega)), ?_⟩
      refine ⟨_, am_X9_shapes (by omega), ?_⟩
      intro v2 u2 hv2
      rintro ⟨rfl, ev2⟩
      obtain ⟨hv2a, hv2b⟩ := hv2
      have es : zsq σ l a m = 1884 * l + v2 := by rw [← ev2]; unfold zsq; split <;> (try split) <;> first | rfl | (exfalso; omega)
      have hzr := zsh_r (m := m) (a := σ 42 a) (b := if 1 < m then σ 42 (a + 1) else 0) (c := if 2 < m then σ 42 (a + 2) else 0) ⟨by omega, by omega, by omega, by omega, by (split <;> omega), by (split <;> omega)⟩
      have hzv : 0 ≤ v2 ∧ v2 < 1884 := by unfold zsq at es; omega
      have hcv := hc (1884 * l + v2) (by omega) (by omega)
      refine ⟨by (first | exact ⟨by omega, by omega⟩ | (exfalso; omega)), ?_⟩
      refine ⟨by (first | exact ⟨by omega, by omega⟩ | (exfalso; omega)), ?_⟩
      refine ⟨?_, ?_⟩
      · intro h6
        refine (lp_mcost ha hm (by omega) (m.toNat + 1) a 0 (by omega) (by omega) (Or.inr ⟨rfl, by rw [show (a - a).toNat = 0 by omega]; rfl⟩)).mono (fun v u q => ⟨q.1, ?_⟩)
        rw [← q.2]
        unfold zmc
        rw [es]
        exact if_neg (by assumption)
      · intro h7
        refine ⟨rfl, ?_⟩
        unfold zmc
        rw [es]
        exact if_pos (by assumption)
  · intro h8
    refine ⟨by (first | exact ⟨by omega, by omega⟩ | (exfalso; omega)), ?_⟩
    refine ⟨by (first | exact ⟨by omega, by omega⟩ | (exfalso; omega)), ?_⟩
    refine ⟨?_, ?_⟩
    · intro h9
      refine ⟨_, am_X9_shapes (by omega), ?_⟩
      intro v3 u3 hv3
      rintro ⟨rfl, ev3⟩
      obtain ⟨hv3a, hv3b⟩ := hv3
      have es : zsq σ l a m = 1884 * l + v3 := by rw [← ev3]; unfold zsq; split <;> (try split) <;> first | rfl | (exfalso; omega)
      have hzr := zsh_r (m := m) (a := σ 42 a) (b := if 1 < m then σ 42 (a + 1) else 0) (c := if 2 < m then σ 42 (a + 2) else 0) ⟨by omega, by omega, by omega, by omega, by (split <;> omega), by (split <;> omega)⟩
      have hzv : 0 ≤ v3 ∧ v3 < 1884 := by unfold zsq at es; omega
      have hcv := hc (1884 * l + v3) (by omega) (by omega)
      refine ⟨by (first | exact ⟨by omega, by omega⟩ | (exfalso; omega)), ?_⟩
      refine ⟨by (first | exact ⟨by omega, by omega⟩ | (exfalso; omega)), ?_⟩
      refine ⟨?_, ?_⟩
      · intro h10
        refine (lp_mcost ha hm (by omega) (m.toNat + 1) a 0 (by omega) (by omega) (Or.inr ⟨rfl, by rw [show (a - a).toNat = 0 by omega]; rfl⟩)).mono (fun v u q => ⟨q.1, ?_⟩)
        rw [← q.2]
        unfold zmc
        rw [es]
        exact if_neg (by assumption)
      · intro h11
        refine ⟨rfl, ?_⟩
        unfold zmc
        rw [es]
        exact if_pos (by assumption)
    · intro h12
      refine ⟨by (first | exact ⟨by omega, by omega⟩ | (exfalso; omega)), ?_⟩
      refine ⟨by (first | exact ⟨by omega, by omega⟩ | (exfalso; omega)), ?_⟩
      refine ⟨_, am_X9_shapes (by omega), ?_⟩
      intro v4 u4 hv4
      rintro ⟨rfl, ev4⟩
      obtain ⟨hv4a, hv4b⟩ := hv4
      have es : zsq σ l a m = 1884 * l + v4 := by rw [← ev4]; unfold zsq; split <;> (try split) <;> first | rfl | (exfalso; omega)
      have hzr := zsh_r (m := m) (a := σ 42 a) (b := if 1 < m then σ 42 (a + 1) else 0) (c := if 2 < m then σ 42 (a + 2) else 0) ⟨by omega, by omega, by omega, by omega, by (split <;> omega), by (split <;> omega)⟩
      have hzv : 0 ≤ v4 ∧ v4 < 1884 := by unfold zsq at es; omega
      have hcv := hc (1884 * l + v4) (by omega) (by omega)
      refine ⟨by (first | exact ⟨by omega, by omega⟩ | (exfalso; omega)), ?_⟩
      refine ⟨by (first | exact ⟨by omega, by omega⟩ | (exfalso; omega)), ?_⟩
      refine ⟨?_, ?_⟩
      · intro h13
        refine (lp_mcost ha hm (by omega) (m.toNat + 1) a 0 (by omega) (by omega) (Or.inr ⟨rfl, by rw [show (a - a).toNat = 0 by omega]; rfl⟩)).mono (fun v u q => ⟨q.1, ?_⟩)
        rw [← q.2]
        unfold zmc
        rw [es]
        exact if_neg (by assumption)
      · intro h14
        refine ⟨rfl, ?_⟩
        unfold zmc
        rw [es]
        exact if_pos (by assumption)
