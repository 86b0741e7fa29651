/-! INKS: where they begin -/
def zbr (x : Int → Int) (g : Int) (k : Nat) : Prop := k = 0 ∨ g < x k - x ((k : Int) - 1)
noncomputable def zbk (x : Int → Int) (g : Int) : Nat → Int
  | 0 => 0
  | k + 1 => zbk x g k + (if k = 0 ∨ g < x k - x ((k : Int) - 1) then 1 else 0)
noncomputable def zfs (x : Int → Int) (g : Int) : Nat → Int → Int
  | 0 => fun _ => 0
  | k + 1 => if k = 0 ∨ g < x k - x ((k : Int) - 1) then fun j => if j = zbk x g k then (k : Int) else zfs x g k j else zfs x g k
theorem zbk_le (x : Int → Int) (g : Int) : ∀ k : Nat, 0 ≤ zbk x g k ∧ zbk x g k ≤ k
  | 0 => ⟨by simp [zbk], by simp [zbk]⟩
  | k + 1 => by
    have := zbk_le x g k
    simp only [zbk]
    split <;> omega
theorem zbk_y {x : Int → Int} {g : Int} {k : Nat} (h : k = 0 ∨ g < x k - x ((k : Int) - 1)) : zbk x g (k + 1) = zbk x g k + 1 ∧ ∀ j, zfs x g (k + 1) j = if j = zbk x g k then (k : Int) else zfs x g k j := by
  constructor
  · simp only [zbk, if_pos h]
  · intro j; simp only [zfs, if_pos h]
theorem zbk_n {x : Int → Int} {g : Int} {k : Nat} (h : ¬ (k = 0 ∨ g < x k - x ((k : Int) - 1))) : zbk x g (k + 1) = zbk x g k ∧ zfs x g (k + 1) = zfs x g k := by
  constructor
  · simp only [zbk, if_neg h]; omega
  · simp only [zfs, if_neg h]
theorem zbk_congr {x y : Int → Int} {g : Int} : ∀ {n : Nat}, (∀ j : Int, 0 ≤ j → j < n → x j = y j) → zbk x g n = zbk y g n ∧ zfs x g n = zfs y g n
  | 0, _ => ⟨rfl, rfl⟩
  | n + 1, h => by
    obtain ⟨e1, e2⟩ := zbk_congr (x := x) (y := y) (g := g) (n := n) (fun j a b => h j a (by omega))
    have hc : (n = 0 ∨ g < x n - x ((n : Int) - 1)) ↔ (n = 0 ∨ g < y n - y ((n : Int) - 1)) := by
      by_cases z : n = 0
      · simp [z]
      · rw [h n (by omega) (by omega), h ((n : Int) - 1) (by omega) (by omega)]
    by_cases c : n = 0 ∨ g < x n - x ((n : Int) - 1)
    · have c2 := hc.mp c
      rw [(zbk_y c).1, (zbk_y c2).1, e1]
      refine ⟨rfl, ?_⟩
      funext j
      rw [(zbk_y c).2, (zbk_y c2).2, e1, e2]
    · have c2 := fun q => c (hc.mpr q)
      rw [(zbk_n c).1, (zbk_n c2).1, (zbk_n c).2, (zbk_n c2).2]
      exact ⟨e1, e2⟩
theorem zfs_r {x : Int → Int} {g : Int} : ∀ {n : Nat} {j : Int}, 0 ≤ j → j < zbk x g n → 0 ≤ zfs x g n j ∧ zfs x g n j < n
  | 0, j, a, b => by simp [zbk] at b; omega
  | n + 1, j, a, b => by
    by_cases c : n = 0 ∨ g < x n - x ((n : Int) - 1)
    · rw [(zbk_y c).1] at b
      rw [(zbk_y c).2]
      split
      · omega
      · have := zfs_r (x := x) (g := g) (n := n) (j := j) a (by omega)
        omega
    · rw [(zbk_n c).1] at b
      rw [(zbk_n c).2]
      have := zfs_r (x := x) (g := g) (n := n) (j := j) a b
      omega
theorem zfs_mono {x : Int → Int} {g : Int} : ∀ {n : Nat} {i j : Int}, 0 ≤ i → i < j → j < zbk x g n → zfs x g n i < zfs x g n j
  | 0, i, j, a, b, c => by simp [zbk] at c; omega
  | n + 1, i, j, a, b, d => by
    by_cases c : n = 0 ∨ g < x n - x ((n : Int) - 1)
    · rw [(zbk_y c).1] at d
      rw [(zbk_y c).2, (zbk_y c).2]
      rw [if_neg (show ¬ i = zbk x g n by omega)]
      have hi := zfs_r (x := x) (g := g) (n := n) (j := i) a (by omega)
      split
      · exact hi.2
      · exact zfs_mono (n := n) a b (by omega)
    · rw [(zbk_n c).1] at d
      rw [(zbk_n c).2]
      exact zfs_mono (n := n) a b d
set_option maxRecDepth 100000 in
set_option maxHeartbeats 4000000 in
theorem lp_begin {σ : zS} {n : Nat} (hn : σ 2 7 = (n : Int)) (hn40 : n ≤ 40) (hx : ∀ j : Int, 0 ≤ j → j < n → 0 ≤ σ 17 j ∧ σ 17 j ≤ 2000) : ∀ (m k : Nat) (s : zS), k + m = n → zfr [2, 20, 21] σ s → (∀ j : Int, ¬ j = 10 → s 2 j = σ 2 j) → s 2 10 = zbk (σ 17) (σ 2 3) k → (∀ j : Int, 0 ≤ j → j < zbk (σ 17) (σ 2 3) k → s 20 j = zfs (σ 17) (σ 2 3) k j ∧ s 21 j = 0) → zRuns 17 zX0 (fun (v : Int) (u : zS) => zfr [2, 20, 21] σ u ∧ (∀ j : Int, ¬ j = 10 → u 2 j = σ 2 j) ∧ u 2 10 = zbk (σ 17) (σ 2 3) n ∧ u 20 (zbk (σ 17) (σ 2 3) n) = (n : Int) ∧ ∀ j : Int, 0 ≤ j → j < zbk (σ 17) (σ 2 3) n → u 20 j = zfs (σ 17) (σ 2 3) n j ∧ u 21 j = 0) 7 [some (.inr (.inr (2, 0))), some (.inl (k : Int))] [] s := by
  intro m
  induction m with
  | zero =>
    intro k s hk hf i2 hp ha
    have e7 := i2 7 (by decide)
    have hl := zbk_le (σ 17) (σ 2 3) k
    obtain rfl : n = k := by omega
    refine zwalk zmk_17 [(7, [true, true])] 3 ?_
    show (((s 2 (7 : Int)) ≤ (n : Int) → ((0 ≤ (s 2 (10 : Int)) ∧ (s 2 (10 : Int)) < (41 : Int)) ∧ (zfr [2, 20, 21] σ (zup s 20 (s 2 (10 : Int)) (s 2 (7 : Int))) ∧ (∀ j : Int, ¬ j = 10 → (zup s 20 (s 2 (10 : Int)) (s 2 (7 : Int))) 2 j = σ 2 j) ∧ (zup s 20 (s 2 (10 : Int)) (s 2 (7 : Int))) 2 10 = zbk (σ 17) (σ 2 3) n ∧ (zup s 20 (s 2 (10 : Int)) (s 2 (7 : Int))) 20 (zbk (σ 17) (σ 2 3) n) = (n : Int) ∧ ∀ j : Int, 0 ≤ j → j < zbk (σ 17) (σ 2 3) n → (zup s 20 (s 2 (10 : Int)) (s 2 (7 : Int))) 20 j = zfs (σ 17) (σ 2 3) n j ∧ (zup s 20 (s 2 (10 : Int)) (s 2 (7 : Int))) 21 j = 0))) ∧ ((n : Int) < (s 2 (7 : Int)) → (((n : Int) = 0 → ((0 ≤ (s 2 (10 : Int)) ∧ (s 2 (10 : Int)) < (41 : Int)) ∧ ((0 ≤ (s 2 (10 : Int)) ∧ (s 2 (10 : Int)) < (40 : Int)) ∧ (zI ((s 2 (10 : Int)) + (1 : Int)) ∧ (zI ((n : Int) + (1 : Int)) ∧ zRuns 17 zX0 (fun (v : Int) (u : zS) => zfr [2, 20, 21] σ u ∧ (∀ j : Int, ¬ j = 10 → u 2 j = σ 2 j) ∧ u 2 10 = zbk (σ 17) (σ 2 3) n ∧ u 20 (zbk (σ 17) (σ 2 3) n) = (n : Int) ∧ ∀ j : Int, 0 ≤ j → j < zbk (σ 17) (σ 2 3) n → u 20 j = zfs (σ 17) (σ 2 3) n j ∧ u 21 j = 0) 7 [some (.inr (.inr (2, 0))), some (.inl ((n : Int) + (1 : Int)))] [] (zup (zup (zup s 20 (s 2 (10 : Int)) (n : Int)) 21 (s 2 (10 : Int)) (0 : Int)) 2 (10 : Int) ((s 2 (10 : Int)) + (1 : Int)))))))) ∧ (¬ (n : Int) = 0 → ((0 ≤ (n : Int) ∧ (n : Int) < (40 : Int)) ∧ (zI ((n : Int) - (1 : Int)) ∧ ((0 ≤ ((n : Int) - (1 : Int)) ∧ ((n : Int) - (1 : Int)) < (40 : Int)) ∧ (zI ((s 17 (n : Int)) - (s 17 ((n : Int) - (1 : Int)))) ∧ ((((s 17 (n : Int)) - (s 17 ((n : Int) - (1 : Int)))) ≤ (s 2 (3 : Int)) → (zI ((n : Int) + (1 : Int)) ∧ zRuns 17 zX0 (fun (v : Int) (u : zS) => zfr [2, 20, 21] σ u ∧ (∀ j : Int, ¬ j = 10 → u 2 j = σ 2 j) ∧ u 2 10 = zbk (σ 17) (σ 2 3) n ∧ u 20 (zbk (σ 17) (σ 2 3) n) = (n : Int) ∧ ∀ j : Int, 0 ≤ j → j < zbk (σ 17) (σ 2 3) n → u 20 j = zfs (σ 17) (σ 2 3) n j ∧ u 21 j = 0) 7 [some (.inr (.inr (2, 0))), some (.inl ((n : Int) + (1 : Int)))] [] s)) ∧ ((s 2 (3 : Int)) < ((s 17 (n : Int)) - (s 17 ((n : Int) - (1 : Int)))) → ((0 ≤ (s 2 (10 : Int)) ∧ (s 2 (10 : Int)) < (41 : Int)) ∧ ((0 ≤ (s 2 (10 : Int)) ∧ (s 2 (10 : Int)) < (40 : Int)) ∧ (zI ((s 2 (10 : Int)) + (1 : Int)) ∧ (zI ((n : Int) + (1 : Int)) ∧ zRuns 17 zX0 (fun (v : Int) (u : zS) => zfr [2, 20, 21] σ u ∧ (∀ j : Int, ¬ j = 10 → u 2 j = σ 2 j) ∧ u 2 10 = zbk (σ 17) (σ 2 3) n ∧ u 20 (zbk (σ 17) (σ 2 3) n) = (n : Int) ∧ ∀ j : Int, 0 ≤ j → j < zbk (σ 17) (σ 2 3) n → u 20 j = zfs (σ 17) (σ 2 3) n j ∧ u 21 j = 0) 7 [some (.inr (.inr (2, 0))), some (.inl ((n : Int) + (1 : Int)))] [] (zup (zup (zup s 20 (s 2 (10 : Int)) (n : Int)) 21 (s 2 (10 : Int)) (0 : Int)) 2 (10 : Int) ((s 2 (10 : Int)) + (1 : Int)))))))))))))))))
    rw [hp]
    refine ⟨?_, ?_⟩
    · intro h1
      refine ⟨by (omega), ?_⟩
      refine ⟨hf.up (by decide), i2, hp, ?_, fun j a b => ?_⟩
      · rw [e7, hn, zup_at]; exact if_pos rfl
      · show (if j = _ then _ else s 20 j) = _ ∧ s 21 j = 0
        rw [if_neg (by omega)]
        exact ha j a b
    · intro h2
      refine ⟨?_, ?_⟩
      · intro h3
        refine ⟨by ((exfalso; omega)), ?_⟩
        refine ⟨by ((exfalso; omega)), ?_⟩
        refine ⟨by (exfalso; omega), ?_⟩
        refine ⟨by (exfalso; omega), ?_⟩
        exfalso; omega
      · intro h4
        refine ⟨by ((exfalso; omega)), ?_⟩
        refine ⟨by (exfalso; omega), ?_⟩
        refine ⟨by ((exfalso; omega)), ?_⟩
        refine ⟨by (exfalso; omega), ?_⟩
        refine ⟨?_, ?_⟩
        · intro h5
          refine ⟨by (exfalso; omega), ?_⟩
          exfalso; omega
        · intro h6
          refine ⟨by ((exfalso; omega)), ?_⟩
          refine ⟨by ((exfalso; omega)), ?_⟩
          refine ⟨by (exfalso; omega), ?_⟩
          refine ⟨by (exfalso; omega), ?_⟩
          exfalso; omega
  | succ m ih =>
    intro k s hk hf i2 hp ha
    have e7 := i2 7 (by decide)
    have e3 := i2 3 (by decide)
    have e17 : s 17 = σ 17 := hf 17 (by decide)
    have hl := zbk_le (σ 17) (σ 2 3) k
    have hxk := hx k (by omega) (by omega)
    have hxp := hx ((k : Int) - 1)
    refine zwalk zmk_17 [(7, [true, true])] 3 ?_
    show (((s 2 (7 : Int)) ≤ (k : Int) → ((0 ≤ (s 2 (10 : Int)) ∧ (s 2 (10 : Int)) < (41 : Int)) ∧ (zfr [2, 20, 21] σ (zup s 20 (s 2 (10 : Int)) (s 2 (7 : Int))) ∧ (∀ j : Int, ¬ j = 10 → (zup s 20 (s 2 (10 : Int)) (s 2 (7 : Int))) 2 j = σ 2 j) ∧ (zup s 20 (s 2 (10 : Int)) (s 2 (7 : Int))) 2 10 = zbk (σ 17) (σ 2 3) n ∧ (zup s 20 (s 2 (10 : Int)) (s 2 (7 : Int))) 20 (zbk (σ 17) (σ 2 3) n) = (n : Int) ∧ ∀ j : Int, 0 ≤ j → j < zbk (σ 17) (σ 2 3) n → (zup s 20 (s 2 (10 : Int)) (s 2 (7 : Int))) 20 j = zfs (σ 17) (σ 2 3) n j ∧ (zup s 20 (s 2 (10 : Int)) (s 2 (7 : Int))) 21 j = 0))) ∧ ((k : Int) < (s 2 (7 : Int)) → (((k : Int) = 0 → ((0 ≤ (s 2 (10 : Int)) ∧ (s 2 (10 : Int)) < (41 : Int)) ∧ ((0 ≤ (s 2 (10 : Int)) ∧ (s 2 (10 : Int)) < (40 : Int)) ∧ (zI ((s 2 (10 : Int)) + (1 : Int)) ∧ (zI ((k : Int) + (1 : Int)) ∧ zRuns 17 zX0 (fun (v : Int) (u : zS) => zfr [2, 20, 21] σ u ∧ (∀ j : Int, ¬ j = 10 → u 2 j = σ 2 j) ∧ u 2 10 = zbk (σ 17) (σ 2 3) n ∧ u 20 (zbk (σ 17) (σ 2 3) n) = (n : Int) ∧ ∀ j : Int, 0 ≤ j → j < zbk (σ 17) (σ 2 3) n → u 20 j = zfs (σ 17) (σ 2 3) n j ∧ u 21 j = 0) 7 [some (.inr (.inr (2, 0))), some (.inl ((k : Int) + (1 : Int)))] [] (zup (zup (zup s 20 (s 2 (10 : Int)) (k : Int)) 21 (s 2 (10 : Int)) (0 : Int)) 2 (10 : Int) ((s 2 (10 : Int)) + (1 : Int)))))))) ∧ (¬ (k : Int) = 0 → ((0 ≤ (k : Int) ∧ (k : Int) < (40 : Int)) ∧ (zI ((k : Int) - (1 : Int)) ∧ ((0 ≤ ((k : Int) - (1 : Int)) ∧ ((k : Int) - (1 : Int)) < (40 : Int)) ∧ (zI ((s 17 (k : Int)) - (s 17 ((k : Int) - (1 : Int)))) ∧ ((((s 17 (k : Int)) - (s 17 ((k : Int) - (1 : Int)))) ≤ (s 2 (3 : Int)) → (zI ((k : Int) + (1 : Int)) ∧ zRuns 17 zX0 (fun (v : Int) (u : zS) => zfr [2, 20, 21] σ u ∧ (∀ j : Int, ¬ j = 10 → u 2 j = σ 2 j) ∧ u 2 10 = zbk (σ 17) (σ 2 3) n ∧ u 20 (zbk (σ 17) (σ 2 3) n) = (n : Int) ∧ ∀ j : Int, 0 ≤ j → j < zbk (σ 17) (σ 2 3) n → u 20 j = zfs (σ 17) (σ 2 3) n j ∧ u 21 j = 0) 7 [some (.inr (.inr (2, 0))), some (.inl ((k : Int) + (1 : Int)))] [] s)) ∧ ((s 2 (3 : Int)) < ((s 17 (k : Int)) - (s 17 ((k : Int) - (1 : Int)))) → ((0 ≤ (s 2 (10 : Int)) ∧ (s 2 (10 : Int)) < (41 : Int)) ∧ ((0 ≤ (s 2 (10 : Int)) ∧ (s 2 (10 : Int)) < (40 : Int)) ∧ (zI ((s 2 (10 : Int)) + (1 : Int)) ∧ (zI ((k : Int) + (1 : Int)) ∧ zRuns 17 zX0 (fun (v : Int) (u : zS) => zfr [2, 20, 21] σ u ∧ (∀ j : Int, ¬ j = 10 → u 2 j = σ 2 j) ∧ u 2 10 = zbk (σ 17) (σ 2 3) n ∧ u 20 (zbk (σ 17) (σ 2 3) n) = (n : Int) ∧ ∀ j : Int, 0 ≤ j → j < zbk (σ 17) (σ 2 3) n → u 20 j = zfs (σ 17) (σ 2 3) n j ∧ u 21 j = 0) 7 [some (.inr (.inr (2, 0))), some (.inl ((k : Int) + (1 : Int)))] [] (zup (zup (zup s 20 (s 2 (10 : Int)) (k : Int)) 21 (s 2 (10 : Int)) (0 : Int)) 2 (10 : Int) ((s 2 (10 : Int)) + (1 : Int)))))))))))))))))
    rw [e17, hp, e7, e3]
    refine ⟨?_, ?_⟩
    · intro h1
      refine ⟨by (first | exact ⟨by omega, by omega⟩ | (exfalso; omega)), ?_⟩
      exfalso; omega
    · intro h2
      refine ⟨?_, ?_⟩
      · intro h3
        refine ⟨by (first | exact ⟨by omega, by omega⟩ | (exfalso; omega)), ?_⟩
        refine ⟨by (first | exact ⟨by omega, by omega⟩ | (exfalso; omega)), ?_⟩
        refine ⟨by (first | exact ⟨by omega, by omega⟩ | (exfalso; omega)), ?_⟩
        refine ⟨by (first | exact ⟨by omega, by omega⟩ | (exfalso; omega)), ?_⟩
        have hb : k = 0 ∨ σ 2 3 < σ 17 k - σ 17 ((k : Int) - 1) := by omega
        have hz := zbk_y hb
        refine ih (k + 1) _ (by omega) ?_ ?_ ?_ ?_
        · exact ((hf.up (c := 20) (by decide)).up (c := 21) (by decide)).up (c := 2) (by decide)
        · intro j hj
          show (if j = 10 then _ else s 2 j) = _
          rw [if_neg hj]; exact i2 j hj
        · show zbk (σ 17) (σ 2 3) k + 1 = _
          rw [hz.1]
        · intro j q0 q1
          show (if j = zbk (σ 17) (σ 2 3) k then (k : Int) else s 20 j) = _ ∧ (if j = zbk (σ 17) (σ 2 3) k then (0 : Int) else s 21 j) = 0
          rw [hz.2]
          by_cases e : j = zbk (σ 17) (σ 2 3) k
          · simp only [if_pos e]; exact ⟨trivial, trivial⟩
          · simp only [if_neg e]
            exact ha j q0 (by omega)
      · intro h4
        refine ⟨by (first | exact ⟨by omega, by omega⟩ | (exfalso; omega)), ?_⟩
        refine ⟨by (first | exact ⟨by omega, by omega⟩ | (exfalso; omega)), ?_⟩
        refine ⟨by (first | exact ⟨by omega, by omega⟩ | (exfalso; omega)), ?_⟩
        refine ⟨by (first | exact ⟨by omega, by omega⟩ | (exfalso; omega)), ?_⟩
        refine ⟨?_, ?_⟩
        · intro h5
          refine ⟨by (first | exact ⟨by omega, by omega⟩ | (exfalso; omega)), ?_⟩
          have hz := zbk_n (x := σ 17) (g := σ 2 3) (k := k) (by omega)
          refine ih (k + 1) _ (by omega) hf i2 (by rw [hz.1, hp]) ?_
          rw [hz.1, hz.2]
          exact ha
        · intro h6
          refine ⟨by (first | exact ⟨by omega, by omega⟩ | (exfalso; omega)), ?_⟩
          refine ⟨by (first | exact ⟨by omega, by omega⟩ | (exfalso; omega)), ?_⟩
          refine ⟨by (first | exact ⟨by omega, by omega⟩ | (exfalso; omega)), ?_⟩
          refine ⟨by (first | exact ⟨by omega, by omega⟩ | (exfalso; omega)), ?_⟩
          have hb : k = 0 ∨ σ 2 3 < σ 17 k - σ 17 ((k : Int) - 1) := by omega
          have hz := zbk_y hb
          refine ih (k + 1) _ (by omega) ?_ ?_ ?_ ?_
          · exact ((hf.up (c := 20) (by decide)).up (c := 21) (by decide)).up (c := 2) (by decide)
          · intro j hj
            show (if j = 10 then _ else s 2 j) = _
            rw [if_neg hj]; exact i2 j hj
          · show zbk (σ 17) (σ 2 3) k + 1 = _
            rw [hz.1]
          · intro j q0 q1
            show (if j = zbk (σ 17) (σ 2 3) k then (k : Int) else s 20 j) = _ ∧ (if j = zbk (σ 17) (σ 2 3) k then (0 : Int) else s 21 j) = 0
            rw [hz.2]
            by_cases e : j = zbk (σ 17) (σ 2 3) k
            · simp only [if_pos e]; exact ⟨trivial, trivial⟩
            · simp only [if_neg e]
              exact ha j q0 (by omega)
set_option maxRecDepth 100000 in
set_option maxHeartbeats 4000000 in
theorem am_X2_beginInks {σ : zS} {n : Nat} (hn : σ 2 7 = (n : Int)) (hn40 : n ≤ 40) (hx : ∀ j : Int, 0 ≤ j → j < n → 0 ≤ σ 17 j ∧ σ 17 j ≤ 2000) : zAM 17 [.inr (.inr (2, 0))] σ (fun (v : Int) (u : zS) => zfr [2, 20, 21] σ u ∧ (∀ j : Int, ¬ j = 10 → u 2 j = σ 2 j) ∧ u 2 10 = zbk (σ 17) (σ 2 3) n ∧ u 20 (zbk (σ 17) (σ 2 3) n) = (n : Int) ∧ ∀ j : Int, 0 ≤ j → j < zbk (σ 17) (σ 2 3) n → u 20 j = zfs (σ 17) (σ 2 3) n j ∧ u 21 j = 0) := by
  refine zam (by decide) (Nat.le_of_ble_eq_true rfl) ?_
  refine zwalk zmk_17 [(7, [true, true])] 2 ?_
  show zRuns 17 zX0 (fun (v : Int) (u : zS) => zfr [2, 20, 21] σ u ∧ (∀ j : Int, ¬ j = 10 → u 2 j = σ 2 j) ∧ u 2 10 = zbk (σ 17) (σ 2 3) n ∧ u 20 (zbk (σ 17) (σ 2 3) n) = (n : Int) ∧ ∀ j : Int, 0 ≤ j → j < zbk (σ 17) (σ 2 3) n → u 20 j = zfs (σ 17) (σ 2 3) n j ∧ u 21 j = 0) 7 [some (.inr (.inr (2, 0))), some (.inl (0 : Int))] [] (zup σ 2 (10 : Int) (0 : Int))
  refine lp_begin (σ := σ) hn hn40 hx n 0 _ (by omega) (zfr.rf.up (by decide)) ?_ rfl ?_
  · intro j hj
    show (if j = 10 then _ else σ 2 j) = _
    rw [if_neg hj]
  · intro j q0 q1
    exact absurd q1 (by show ¬ j < 0; omega)
