/-! the model's copy; the class's unteach -/
theorem zcp_at {σ : zS} {s d : Nat} {so o m x : Int} : zcp σ s so d o m d x = if o ≤ x ∧ x < o + m then σ s (so + (x - o)) else σ d x := by
  unfold zcp
  by_cases h : o ≤ x ∧ x < o + m
  · rw [if_pos h, if_pos ⟨rfl, h⟩]
  · rw [if_neg h, if_neg (fun q => h q.2)]
set_option maxRecDepth 100000 in
set_option maxHeartbeats 4000000 in
theorem lp_cp157 {a : Int} {i : Int} {b : Int} {j : Int} {m : Int} {σ : zS} (hms : zMS σ) (ho : (((0 ≤ a ∧ a < 8) ∧ 0 ≤ b ∧ b < 8) ∧ ¬ σ 37 a = 0 ∧ ¬ σ 37 b = 0 ∧ σ 37 a = σ 37 b ∧ 0 ≤ i ∧ 0 ≤ j ∧ 0 ≤ m ∧ i + m ≤ σ 38 a ∧ j + m ≤ σ 38 b)) : ∀ (n : Nat) (k : Int) (t : zS), m + 1 - k < (n : Int) → (0 ≤ k ∧ k ≤ m) → (t = zcp (zcp σ 39 (80 * a + i) 40 0 m) 40 0 39 (80 * b + j) k) → zRuns 109 zX0 (fun (v : Int) (u : zS) => ((¬ ((0 ≤ a ∧ a < 8) ∧ 0 ≤ b ∧ b < 8)) ∧ σ = u ∧ -1000001 = v) ∨ (((0 ≤ a ∧ a < 8) ∧ 0 ≤ b ∧ b < 8) ∧ (σ 37 a = 0 ∨ σ 37 b = 0) ∧ zup σ 9 4 1 = u ∧ -1000011 = v) ∨ ((((0 ≤ a ∧ a < 8) ∧ 0 ≤ b ∧ b < 8) ∧ ¬ σ 37 a = 0 ∧ ¬ σ 37 b = 0 ∧ ¬ σ 37 a = σ 37 b) ∧ zup σ 9 4 5 = u ∧ -1000015 = v) ∨ ((((0 ≤ a ∧ a < 8) ∧ 0 ≤ b ∧ b < 8) ∧ ¬ σ 37 a = 0 ∧ ¬ σ 37 b = 0 ∧ σ 37 a = σ 37 b ∧ ¬ (0 ≤ i ∧ 0 ≤ j ∧ 0 ≤ m ∧ i + m ≤ σ 38 a ∧ j + m ≤ σ 38 b)) ∧ zup σ 9 4 2 = u ∧ -1000012 = v) ∨ ((((0 ≤ a ∧ a < 8) ∧ 0 ≤ b ∧ b < 8) ∧ ¬ σ 37 a = 0 ∧ ¬ σ 37 b = 0 ∧ σ 37 a = σ 37 b ∧ 0 ≤ i ∧ 0 ≤ j ∧ 0 ≤ m ∧ i + m ≤ σ 38 a ∧ j + m ≤ σ 38 b) ∧ zup (zcp (zcp σ 39 (80 * a + i) 40 0 m) 40 0 39 (80 * b + j) m) 9 4 0 = u ∧ m = v)) 157 [some (.inr (.inr (9, 0))), none, none, some (.inl b), some (.inl j), some (.inl m), some (.inl k)] [] t := by
  intro n
  induction n with
  | zero =>
    intro k t hn k0 hs
    exfalso
    omega
  | succ n ih =>
    intro k t hn k0 hs
    refine zwalk zmk_109 [(120, [true, true, true, true, true, true, true]), (157, [true, false, false, true, true, true, true])] 3 ?_
    show ((m ≤ k → (∃ Rc : Int → zS → Prop, zAM 105 [.inr (.inr (9, 0)), .inl m] t Rc ∧ ∀ (v1 : Int) (u1 : zS), zI v1 → Rc v1 u1 → (((¬ ((0 ≤ a ∧ a < 8) ∧ 0 ≤ b ∧ b < 8)) ∧ σ = u1 ∧ -1000001 = v1) ∨ (((0 ≤ a ∧ a < 8) ∧ 0 ≤ b ∧ b < 8) ∧ (σ 37 a = 0 ∨ σ 37 b = 0) ∧ zup σ 9 4 1 = u1 ∧ -1000011 = v1) ∨ ((((0 ≤ a ∧ a < 8) ∧ 0 ≤ b ∧ b < 8) ∧ ¬ σ 37 a = 0 ∧ ¬ σ 37 b = 0 ∧ ¬ σ 37 a = σ 37 b) ∧ zup σ 9 4 5 = u1 ∧ -1000015 = v1) ∨ ((((0 ≤ a ∧ a < 8) ∧ 0 ≤ b ∧ b < 8) ∧ ¬ σ 37 a = 0 ∧ ¬ σ 37 b = 0 ∧ σ 37 a = σ 37 b ∧ ¬ (0 ≤ i ∧ 0 ≤ j ∧ 0 ≤ m ∧ i + m ≤ σ 38 a ∧ j + m ≤ σ 38 b)) ∧ zup σ 9 4 2 = u1 ∧ -1000012 = v1) ∨ ((((0 ≤ a ∧ a < 8) ∧ 0 ≤ b ∧ b < 8) ∧ ¬ σ 37 a = 0 ∧ ¬ σ 37 b = 0 ∧ σ 37 a = σ 37 b ∧ 0 ≤ i ∧ 0 ≤ j ∧ 0 ≤ m ∧ i + m ≤ σ 38 a ∧ j + m ≤ σ 38 b) ∧ zup (zcp (zcp σ 39 (80 * a + i) 40 0 m) 40 0 39 (80 * b + j) m) 9 4 0 = u1 ∧ m = v1)))) ∧ (k < m → (zI ((80 : Int) * b) ∧ (zI (((80 : Int) * b) + j) ∧ (zI ((((80 : Int) * b) + j) + k) ∧ ((0 ≤ k ∧ k < (80 : Int)) ∧ ((0 ≤ ((((80 : Int) * b) + j) + k) ∧ ((((80 : Int) * b) + j) + k) < (640 : Int)) ∧ (zI (k + (1 : Int)) ∧ zRuns 109 zX0 (fun (v : Int) (u : zS) => ((¬ ((0 ≤ a ∧ a < 8) ∧ 0 ≤ b ∧ b < 8)) ∧ σ = u ∧ -1000001 = v) ∨ (((0 ≤ a ∧ a < 8) ∧ 0 ≤ b ∧ b < 8) ∧ (σ 37 a = 0 ∨ σ 37 b = 0) ∧ zup σ 9 4 1 = u ∧ -1000011 = v) ∨ ((((0 ≤ a ∧ a < 8) ∧ 0 ≤ b ∧ b < 8) ∧ ¬ σ 37 a = 0 ∧ ¬ σ 37 b = 0 ∧ ¬ σ 37 a = σ 37 b) ∧ zup σ 9 4 5 = u ∧ -1000015 = v) ∨ ((((0 ≤ a ∧ a < 8) ∧ 0 ≤ b ∧ b < 8) ∧ ¬ σ 37 a = 0 ∧ ¬ σ 37 b = 0 ∧ σ 37 a = σ 37 b ∧ ¬ (0 ≤ i ∧ 0 ≤ j ∧ 0 ≤ m ∧ i + m ≤ σ 38 a ∧ j + m ≤ σ 38 b)) ∧ zup σ 9 4 2 = u ∧ -1000012 = v) ∨ ((((0 ≤ a ∧ a < 8) ∧ 0 ≤ b ∧ b < 8) ∧ ¬ σ 37 a = 0 ∧ ¬ σ 37 b = 0 ∧ σ 37 a = σ 37 b ∧ 0 ≤ i ∧ 0 ≤ j ∧ 0 ≤ m ∧ i + m ≤ σ 38 a ∧ j + m ≤ σ 38 b) ∧ zup (zcp (zcp σ 39 (80 * a + i) 40 0 m) 40 0 39 (80 * b + j) m) 9 4 0 = u ∧ m = v)) 157 [some (.inr (.inr (9, 0))), none, none, some (.inl b), some (.inl j), some (.inl m), some (.inl (k + (1 : Int)))] [] (zup t 39 ((((80 : Int) * b) + j) + k) (t 40 k))))))))))
    have c0 := hms a ho.1.1
    have c1 := hms b ho.1.2
    refine ⟨?_, ?_⟩
    · intro h1
      refine ⟨_, am_X9_well, ?_⟩
      intro v1 u1 hv1
      intro kv1
      obtain ⟨hv1a, hv1b⟩ := hv1
      obtain ⟨rfl, w5⟩ := kv1
      refine Or.inr (Or.inr (Or.inr (Or.inr ⟨ho, ?_, w5⟩)))
      rw [hs, show k = m by omega]
    · intro h2
      refine ⟨by (first | exact ⟨by omega, by omega⟩ | (exfalso; omega)), ?_⟩
      refine ⟨by (first | exact ⟨by omega, by omega⟩ | (exfalso; omega)), ?_⟩
      refine ⟨by (first | exact ⟨by omega, by omega⟩ | (exfalso; omega)), ?_⟩
      refine ⟨by (first | exact ⟨by omega, by omega⟩ | (exfalso; omega)), ?_⟩
      refine ⟨by (first | exact ⟨by omega, by omega⟩ | (exfalso; omega)), ?_⟩
      refine ⟨by (first | exact ⟨by omega, by omega⟩ | (exfalso; omega)), ?_⟩
      refine ih (k + 1) _ (by omega) ⟨by omega, by omega⟩ ?_
      rw [hs]
      refine zcp_s (by omega) ?_
      rw [zcp_o (by decide)]
      congr 1
      omega
set_option maxRecDepth 100000 in
set_option maxHeartbeats 4000000 in
theorem lp_cp120 {a : Int} {i : Int} {b : Int} {j : Int} {m : Int} {σ : zS} (hms : zMS σ) (ho : (((0 ≤ a ∧ a < 8) ∧ 0 ≤ b ∧ b < 8) ∧ ¬ σ 37 a = 0 ∧ ¬ σ 37 b = 0 ∧ σ 37 a = σ 37 b ∧ 0 ≤ i ∧ 0 ≤ j ∧ 0 ≤ m ∧ i + m ≤ σ 38 a ∧ j + m ≤ σ 38 b)) : ∀ (n : Nat) (k : Int) (t : zS), m + 1 - k < (n : Int) → (0 ≤ k ∧ k ≤ m) → (t = zcp σ 39 (80 * a + i) 40 0 k) → zRuns 109 zX0 (fun (v : Int) (u : zS) => ((¬ ((0 ≤ a ∧ a < 8) ∧ 0 ≤ b ∧ b < 8)) ∧ σ = u ∧ -1000001 = v) ∨ (((0 ≤ a ∧ a < 8) ∧ 0 ≤ b ∧ b < 8) ∧ (σ 37 a = 0 ∨ σ 37 b = 0) ∧ zup σ 9 4 1 = u ∧ -1000011 = v) ∨ ((((0 ≤ a ∧ a < 8) ∧ 0 ≤ b ∧ b < 8) ∧ ¬ σ 37 a = 0 ∧ ¬ σ 37 b = 0 ∧ ¬ σ 37 a = σ 37 b) ∧ zup σ 9 4 5 = u ∧ -1000015 = v) ∨ ((((0 ≤ a ∧ a < 8) ∧ 0 ≤ b ∧ b < 8) ∧ ¬ σ 37 a = 0 ∧ ¬ σ 37 b = 0 ∧ σ 37 a = σ 37 b ∧ ¬ (0 ≤ i ∧ 0 ≤ j ∧ 0 ≤ m ∧ i + m ≤ σ 38 a ∧ j + m ≤ σ 38 b)) ∧ zup σ 9 4 2 = u ∧ -1000012 = v) ∨ ((((0 ≤ a ∧ a < 8) ∧ 0 ≤ b ∧ b < 8) ∧ ¬ σ 37 a = 0 ∧ ¬ σ 37 b = 0 ∧ σ 37 a = σ 37 b ∧ 0 ≤ i ∧ 0 ≤ j ∧ 0 ≤ m ∧ i + m ≤ σ 38 a ∧ j + m ≤ σ 38 b) ∧ zup (zcp (zcp σ 39 (80 * a + i) 40 0 m) 40 0 39 (80 * b + j) m) 9 4 0 = u ∧ m = v)) 120 [some (.inr (.inr (9, 0))), some (.inl a), some (.inl i), some (.inl b), some (.inl j), some (.inl m), some (.inl k)] [] t := by
  intro n
  induction n with
  | zero =>
    intro k t hn k0 hs
    exfalso
    omega
  | succ n ih =>
    intro k t hn k0 hs
    refine zwalk zmk_109 [(120, [true, true, true, true, true, true, true]), (157, [true, false, false, true, true, true, true])] 3 ?_
    show ((m ≤ k → zRuns 109 zX0 (fun (v : Int) (u : zS) => ((¬ ((0 ≤ a ∧ a < 8) ∧ 0 ≤ b ∧ b < 8)) ∧ σ = u ∧ -1000001 = v) ∨ (((0 ≤ a ∧ a < 8) ∧ 0 ≤ b ∧ b < 8) ∧ (σ 37 a = 0 ∨ σ 37 b = 0) ∧ zup σ 9 4 1 = u ∧ -1000011 = v) ∨ ((((0 ≤ a ∧ a < 8) ∧ 0 ≤ b ∧ b < 8) ∧ ¬ σ 37 a = 0 ∧ ¬ σ 37 b = 0 ∧ ¬ σ 37 a = σ 37 b) ∧ zup σ 9 4 5 = u ∧ -1000015 = v) ∨ ((((0 ≤ a ∧ a < 8) ∧ 0 ≤ b ∧ b < 8) ∧ ¬ σ 37 a = 0 ∧ ¬ σ 37 b = 0 ∧ σ 37 a = σ 37 b ∧ ¬ (0 ≤ i ∧ 0 ≤ j ∧ 0 ≤ m ∧ i + m ≤ σ 38 a ∧ j + m ≤ σ 38 b)) ∧ zup σ 9 4 2 = u ∧ -1000012 = v) ∨ ((((0 ≤ a ∧ a < 8) ∧ 0 ≤ b ∧ b < 8) ∧ ¬ σ 37 a = 0 ∧ ¬ σ 37 b = 0 ∧ σ 37 a = σ 37 b ∧ 0 ≤ i ∧ 0 ≤ j ∧ 0 ≤ m ∧ i + m ≤ σ 38 a ∧ j + m ≤ σ 38 b) ∧ zup (zcp (zcp σ 39 (80 * a + i) 40 0 m) 40 0 39 (80 * b + j) m) 9 4 0 = u ∧ m = v)) 157 [some (.inr (.inr (9, 0))), none, none, some (.inl b), some (.inl j), some (.inl m), some (.inl (0 : Int))] [] t) ∧ (k < m → (zI ((80 : Int) * a) ∧ (zI (((80 : Int) * a) + i) ∧ (zI ((((80 : Int) * a) + i) + k) ∧ ((0 ≤ ((((80 : Int) * a) + i) + k) ∧ ((((80 : Int) * a) + i) + k) < (640 : Int)) ∧ ((0 ≤ k ∧ k < (80 : Int)) ∧ (zI (k + (1 : Int)) ∧ zRuns 109 zX0 (fun (v : Int) (u : zS) => ((¬ ((0 ≤ a ∧ a < 8) ∧ 0 ≤ b ∧ b < 8)) ∧ σ = u ∧ -1000001 = v) ∨ (((0 ≤ a ∧ a < 8) ∧ 0 ≤ b ∧ b < 8) ∧ (σ 37 a = 0 ∨ σ 37 b = 0) ∧ zup σ 9 4 1 = u ∧ -1000011 = v) ∨ ((((0 ≤ a ∧ a < 8) ∧ 0 ≤ b ∧ b < 8) ∧ ¬ σ 37 a = 0 ∧ ¬ σ 37 b = 0 ∧ ¬ σ 37 a = σ 37 b) ∧ zup σ 9 4 5 = u ∧ -1000015 = v) ∨ ((((0 ≤ a ∧ a < 8) ∧ 0 ≤ b ∧ b < 8) ∧ ¬ σ 37 a = 0 ∧ ¬ σ 37 b = 0 ∧ σ 37 a = σ 37 b ∧ ¬ (0 ≤ i ∧ 0 ≤ j ∧ 0 ≤ m ∧ i + m ≤ σ 38 a ∧ j + m ≤ σ 38 b)) ∧ zup σ 9 4 2 = u ∧ -1000012 = v) ∨ ((((0 ≤ a ∧ a < 8) ∧ 0 ≤ b ∧ b < 8) ∧ ¬ σ 37 a = 0 ∧ ¬ σ 37 b = 0 ∧ σ 37 a = σ 37 b ∧ 0 ≤ i ∧ 0 ≤ j ∧ 0 ≤ m ∧ i + m ≤ σ 38 a ∧ j + m ≤ σ 38 b) ∧ zup (zcp (zcp σ 39 (80 * a + i) 40 0 m) 40 0 39 (80 * b + j) m) 9 4 0 = u ∧ m = v)) 120 [some (.inr (.inr (9, 0))), some (.inl a), some (.inl i), some (.inl b), some (.inl j), some (.inl m), some (.inl (k + (1 : Int)))] [] (zup t 40 k (t 39 ((((80 : Int) * a) + i) + k)))))))))))
    have c0 := hms a ho.1.1
    have c1 := hms b ho.1.2
    refine ⟨?_, ?_⟩
    · intro h1
      rw [show k = m by omega] at hs
      exact lp_cp157 hms ho (m.toNat + 2) 0 t (by omega) ⟨by omega, by omega⟩ (by rw [hs, zcp_0])
    · intro h2
      refine ⟨by (first | exact ⟨by omega, by omega⟩ | (exfalso; omega)), ?_⟩
      refine ⟨by (first | exact ⟨by omega, by omega⟩ | (exfalso; omega)), ?_⟩
      refine ⟨by (first | exact ⟨by omega, by omega⟩ | (exfalso; omega)), ?_⟩
      refine ⟨by (first | exact ⟨by omega, by omega⟩ | (exfalso; omega)), ?_⟩
      refine ⟨by (first | exact ⟨by omega, by omega⟩ | (exfalso; omega)), ?_⟩
      refine ⟨by (first | exact ⟨by omega, by omega⟩ | (exfalso; omega)), ?_⟩
      refine ih (k + 1) _ (by omega) ⟨by omega, by omega⟩ ?_
      rw [hs]
      have q := zcp_s (σ := σ) (s := 39) (d := 40) (so := 80 * a + i) (o := 0) (m := k) (v := zcp σ 39 (80 * a + i) 40 0 k 39 (80 * a + i + k)) (by omega) (by rw [zcp_o (by decide)])
      rw [Int.zero_add] at q
      exact q
set_option maxRecDepth 100000 in
set_option maxHeartbeats 4000000 in
theorem am_X9_copy {σ : zS} {a : Int} {i : Int} {b : Int} {j : Int} {m : Int} (hms : zMS σ) : zAM 109 [.inr (.inr (9, 0)), .inl a, .inl i, .inl b, .inl j, .inl m] σ (fun (v : Int) (u : zS) => ((¬ ((0 ≤ a ∧ a < 8) ∧ 0 ≤ b ∧ b < 8)) ∧ σ = u ∧ -1000001 = v) ∨ (((0 ≤ a ∧ a < 8) ∧ 0 ≤ b ∧ b < 8) ∧ (σ 37 a = 0 ∨ σ 37 b = 0) ∧ zup σ 9 4 1 = u ∧ -1000011 = v) ∨ ((((0 ≤ a ∧ a < 8) ∧ 0 ≤ b ∧ b < 8) ∧ ¬ σ 37 a = 0 ∧ ¬ σ 37 b = 0 ∧ ¬ σ 37 a = σ 37 b) ∧ zup σ 9 4 5 = u ∧ -1000015 = v) ∨ ((((0 ≤ a ∧ a < 8) ∧ 0 ≤ b ∧ b < 8) ∧ ¬ σ 37 a = 0 ∧ ¬ σ 37 b = 0 ∧ σ 37 a = σ 37 b ∧ ¬ (0 ≤ i ∧ 0 ≤ j ∧ 0 ≤ m ∧ i + m ≤ σ 38 a ∧ j + m ≤ σ 38 b)) ∧ zup σ 9 4 2 = u ∧ -1000012 = v) ∨ ((((0 ≤ a ∧ a < 8) ∧ 0 ≤ b ∧ b < 8) ∧ ¬ σ 37 a = 0 ∧ ¬ σ 37 b = 0 ∧ σ 37 a = σ 37 b ∧ 0 ≤ i ∧ 0 ≤ j ∧ 0 ≤ m ∧ i + m ≤ σ 38 a ∧ j + m ≤ σ 38 b) ∧ zup (zcp (zcp σ 39 (80 * a + i) 40 0 m) 40 0 39 (80 * b + j) m) 9 4 0 = u ∧ m = v)) := by
  refine zam (by decide) (Nat.le_of_ble_eq_true rfl) ?_
  refine zRuns.wf (fun hw hL => ?_)
  refine zwalk zmk_109 [(120, [true, true, true, true, true, true, true]), (157, [true, false, false, true, true, true, true])] 6 ?_
  show (∃ Rc : Int → zS → Prop, zAM 106 [.inl a] σ Rc ∧ ∀ (v1 : Int) (u1 : zS), zI v1 → Rc v1 u1 → ((v1 = 0 → (((¬ ((0 ≤ a ∧ a < 8) ∧ 0 ≤ b ∧ b < 8)) ∧ σ = u1 ∧ -1000001 = (-1000001 : Int)) ∨ (((0 ≤ a ∧ a < 8) ∧ 0 ≤ b ∧ b < 8) ∧ (σ 37 a = 0 ∨ σ 37 b = 0) ∧ zup σ 9 4 1 = u1 ∧ -1000011 = (-1000001 : Int)) ∨ ((((0 ≤ a ∧ a < 8) ∧ 0 ≤ b ∧ b < 8) ∧ ¬ σ 37 a = 0 ∧ ¬ σ 37 b = 0 ∧ ¬ σ 37 a = σ 37 b) ∧ zup σ 9 4 5 = u1 ∧ -1000015 = (-1000001 : Int)) ∨ ((((0 ≤ a ∧ a < 8) ∧ 0 ≤ b ∧ b < 8) ∧ ¬ σ 37 a = 0 ∧ ¬ σ 37 b = 0 ∧ σ 37 a = σ 37 b ∧ ¬ (0 ≤ i ∧ 0 ≤ j ∧ 0 ≤ m ∧ i + m ≤ σ 38 a ∧ j + m ≤ σ 38 b)) ∧ zup σ 9 4 2 = u1 ∧ -1000012 = (-1000001 : Int)) ∨ ((((0 ≤ a ∧ a < 8) ∧ 0 ≤ b ∧ b < 8) ∧ ¬ σ 37 a = 0 ∧ ¬ σ 37 b = 0 ∧ σ 37 a = σ 37 b ∧ 0 ≤ i ∧ 0 ≤ j ∧ 0 ≤ m ∧ i + m ≤ σ 38 a ∧ j + m ≤ σ 38 b) ∧ zup (zcp (zcp σ 39 (80 * a + i) 40 0 m) 40 0 39 (80 * b + j) m) 9 4 0 = u1 ∧ m = (-1000001 : Int)))) ∧ (¬ v1 = 0 → (∃ Rc : Int → zS → Prop, zAM 106 [.inl b] u1 Rc ∧ ∀ (v2 : Int) (u2 : zS), zI v2 → Rc v2 u2 → ((¬ v2 = 0 → ((0 ≤ a ∧ a < (8 : Int)) ∧ (((u2 37 a) = 0 → (∃ Rc : Int → zS → Prop, zAM 104 [.inr (.inr (9, 0)), .inl (1 : Int)] u2 Rc ∧ ∀ (v3 : Int) (u3 : zS), zI v3 → Rc v3 u3 → (((¬ ((0 ≤ a ∧ a < 8) ∧ 0 ≤ b ∧ b < 8)) ∧ σ = u3 ∧ -1000001 = v3) ∨ (((0 ≤ a ∧ a < 8) ∧ 0 ≤ b ∧ b < 8) ∧ (σ 37 a = 0 ∨ σ 37 b = 0) ∧ zup σ 9 4 1 = u3 ∧ -1000011 = v3) ∨ ((((0 ≤ a ∧ a < 8) ∧ 0 ≤ b ∧ b < 8) ∧ ¬ σ 37 a = 0 ∧ ¬ σ 37 b = 0 ∧ ¬ σ 37 a = σ 37 b) ∧ zup σ 9 4 5 = u3 ∧ -1000015 = v3) ∨ ((((0 ≤ a ∧ a < 8) ∧ 0 ≤ b ∧ b < 8) ∧ ¬ σ 37 a = 0 ∧ ¬ σ 37 b = 0 ∧ σ 37 a = σ 37 b ∧ ¬ (0 ≤ i ∧ 0 ≤ j ∧ 0 ≤ m ∧ i + m ≤ σ 38 a ∧ j + m ≤ σ 38 b)) ∧ zup σ 9 4 2 = u3 ∧ -1000012 = v3) ∨ ((((0 ≤ a ∧ a < 8) ∧ 0 ≤ b ∧ b < 8) ∧ ¬ σ 37 a = 0 ∧ ¬ σ 37 b = 0 ∧ σ 37 a = σ 37 b ∧ 0 ≤ i ∧ 0 ≤ j ∧ 0 ≤ m ∧ i + m ≤ σ 38 a ∧ j + m ≤ σ 38 b) ∧ zup (zcp (zcp σ 39 (80 * a + i) 40 0 m) 40 0 39 (80 * b + j) m) 9 4 0 = u3 ∧ m = v3)))) ∧ (¬ (u2 37 a) = 0 → ((0 ≤ b ∧ b < (8 : Int)) ∧ ((¬ (u2 37 b) = 0 → ((0 ≤ a ∧ a < (8 : Int)) ∧ ((0 ≤ b ∧ b < (8 : Int)) ∧ (((u2 37 a) = (u2 37 b) → ((i < 0 → (∃ Rc : Int → zS → Prop, zAM 104 [.inr (.inr (9, 0)), .inl (2 : Int)] u2 Rc ∧ ∀ (v4 : Int) (u4 : zS), zI v4 → Rc v4 u4 → (((¬ ((0 ≤ a ∧ a < 8) ∧ 0 ≤ b ∧ b < 8)) ∧ σ = u4 ∧ -1000001 = v4) ∨ (((0 ≤ a ∧ a < 8) ∧ 0 ≤ b ∧ b < 8) ∧ (σ 37 a = 0 ∨ σ 37 b = 0) ∧ zup σ 9 4 1 = u4 ∧ -1000011 = v4) ∨ ((((0 ≤ a ∧ a < 8) ∧ 0 ≤ b ∧ b < 8) ∧ ¬ σ 37 a = 0 ∧ ¬ σ 37 b = 0 ∧ ¬ σ 37 a = σ 37 b) ∧ zup σ 9 4 5 = u4 ∧ -1000015 = v4) ∨ ((((0 ≤ a ∧ a < 8) ∧ 0 ≤ b ∧ b < 8) ∧ ¬ σ 37 a = 0 ∧ ¬ σ 37 b = 0 ∧ σ 37 a = σ 37 b ∧ ¬ (0 ≤ i ∧ 0 ≤ j ∧ 0 ≤ m ∧ i + m ≤ σ 38 a ∧ j + m ≤ σ 38 b)) ∧ zup σ 9 4 2 = u4 ∧ -1000012 = v4) ∨ ((((0 ≤ a ∧ a < 8) ∧ 0 ≤ b ∧ b < 8) ∧ ¬ σ 37 a = 0 ∧ ¬ σ 37 b = 0 ∧ σ 37 a = σ 37 b ∧ 0 ≤ i ∧ 0 ≤ j ∧ 0 ≤ m ∧ i + m ≤ σ 38 a ∧ j + m ≤ σ 38 b) ∧ zup (zcp (zcp σ 39 (80 * a + i) 40 0 m) 40 0 39 (80 * b + j) m) 9 4 0 = u4 ∧ m = v4)))) ∧ (0 ≤ i → ((j < 0 → (∃ Rc : Int → zS → Prop, zAM 104 [.inr (.inr (9, 0)), .inl (2 : Int)] u2 Rc ∧ ∀ (v5 : Int) (u5 : zS), zI v5 → Rc v5 u5 → (((¬ ((0 ≤ a ∧ a < 8) ∧ 0 ≤ b ∧ b < 8)) ∧ σ = u5 ∧ -1000001 = v5) ∨ (((0 ≤ a ∧ a < 8) ∧ 0 ≤ b ∧ b < 8) ∧ (σ 37 a = 0 ∨ σ 37 b = 0) ∧ zup σ 9 4 1 = u5 ∧ -1000011 = v5) ∨ ((((0 ≤ a ∧ a < 8) ∧ 0 ≤ b ∧ b < 8) ∧ ¬ σ 37 a = 0 ∧ ¬ σ 37 b = 0 ∧ ¬ σ 37 a = σ 37 b) ∧ zup σ 9 4 5 = u5 ∧ -1000015 = v5) ∨ ((((0 ≤ a ∧ a < 8) ∧ 0 ≤ b ∧ b < 8) ∧ ¬ σ 37 a = 0 ∧ ¬ σ 37 b = 0 ∧ σ 37 a = σ 37 b ∧ ¬ (0 ≤ i ∧ 0 ≤ j ∧ 0 ≤ m ∧ i + m ≤ σ 38 a ∧ j + m ≤ σ 38 b)) ∧ zup σ 9 4 2 = u5 ∧ -1000012 = v5) ∨ ((((0 ≤ a ∧ a < 8) ∧ 0 ≤ b ∧ b < 8) ∧ ¬ σ 37 a = 0 ∧ ¬ σ 37 b = 0 ∧ σ 37 a = σ 37 b ∧ 0 ≤ i ∧ 0 ≤ j ∧ 0 ≤ m ∧ i + m ≤ σ 38 a ∧ j + m ≤ σ 38 b) ∧ zup (zcp (zcp σ 39 (80 * a + i) 40 0 m) 40 0 39 (80 * b + j) m) 9 4 0 = u5 ∧ m = v5)))) ∧ (0 ≤ j → ((m < 0 → (∃ Rc : Int → zS → Prop, zAM 104 [.inr (.inr (9, 0)), .inl (2 : Int)] u2 Rc ∧ ∀ (v6 : Int) (u6 : zS), zI v6 → Rc v6 u6 → (((¬ ((0 ≤ a ∧ a < 8) ∧ 0 ≤ b ∧ b < 8)) ∧ σ = u6 ∧ -1000001 = v6) ∨ (((0 ≤ a ∧ a < 8) ∧ 0 ≤ b ∧ b < 8) ∧ (σ 37 a = 0 ∨ σ 37 b = 0) ∧ zup σ 9 4 1 = u6 ∧ -1000011 = v6) ∨ ((((0 ≤ a ∧ a < 8) ∧ 0 ≤ b ∧ b < 8) ∧ ¬ σ 37 a = 0 ∧ ¬ σ 37 b = 0 ∧ ¬ σ 37 a = σ 37 b) ∧ zup σ 9 4 5 = u6 ∧ -1000015 = v6) ∨ ((((0 ≤ a ∧ a < 8) ∧ 0 ≤ b ∧ b < 8) ∧ ¬ σ 37 a = 0 ∧ ¬ σ 37 b = 0 ∧ σ 37 a = σ 37 b ∧ ¬ (0 ≤ i ∧ 0 ≤ j ∧ 0 ≤ m ∧ i + m ≤ σ 38 a ∧ j + m ≤ σ 38 b)) ∧ zup σ 9 4 2 = u6 ∧ -1000012 = v6) ∨ ((((0 ≤ a ∧ a < 8) ∧ 0 ≤ b ∧ b < 8) ∧ ¬ σ 37 a = 0 ∧ ¬ σ 37 b = 0 ∧ σ 37 a = σ 37 b ∧ 0 ≤ i ∧ 0 ≤ j ∧ 0 ≤ m ∧ i + m ≤ σ 38 a ∧ j + m ≤ σ 38 b) ∧ zup (zcp (zcp σ 39 (80 * a + i) 40 0 m) 40 0 39 (80 * b + j) m) 9 4 0 = u6 ∧ m = v6)))) ∧ (0 ≤ m → (zJ (i + m) ∧ ((0 ≤ a ∧ a < (8 : Int)) ∧ ((0 < (zcmp (i + m) (u2 38 a)) → (∃ Rc : Int → zS → Prop, zAM 104 [.inr (.inr (9, 0)), .inl (2 : Int)] u2 Rc ∧ ∀ (v7 : Int) (u7 : zS), zI v7 → Rc v7 u7 → (((¬ ((0 ≤ a ∧ a < 8) ∧ 0 ≤ b ∧ b < 8)) ∧ σ = u7 ∧ -1000001 = v7) ∨ (((0 ≤ a ∧ a < 8) ∧ 0 ≤ b ∧ b < 8) ∧ (σ 37 a = 0 ∨ σ 37 b = 0) ∧ zup σ 9 4 1 = u7 ∧ -1000011 = v7) ∨ ((((0 ≤ a ∧ a < 8) ∧ 0 ≤ b ∧ b < 8) ∧ ¬ σ 37 a = 0 ∧ ¬ σ 37 b = 0 ∧ ¬ σ 37 a = σ 37 b) ∧ zup σ 9 4 5 = u7 ∧ -1000015 = v7) ∨ ((((0 ≤ a ∧ a < 8) ∧ 0 ≤ b ∧ b < 8) ∧ ¬ σ 37 a = 0 ∧ ¬ σ 37 b = 0 ∧ σ 37 a = σ 37 b ∧ ¬ (0 ≤ i ∧ 0 ≤ j ∧ 0 ≤ m ∧ i + m ≤ σ 38 a ∧ j + m ≤ σ 38 b)) ∧ zup σ 9 4 2 = u7 ∧ -1000012 = v7) ∨ ((((0 ≤ a ∧ a < 8) ∧ 0 ≤ b ∧ b < 8) ∧ ¬ σ 37 a = 0 ∧ ¬ σ 37 b = 0 ∧ σ 37 a = σ 37 b ∧ 0 ≤ i ∧ 0 ≤ j ∧ 0 ≤ m ∧ i + m ≤ σ 38 a ∧ j + m ≤ σ 38 b) ∧ zup (zcp (zcp σ 39 (80 * a + i) 40 0 m) 40 0 39 (80 * b + j) m) 9 4 0 = u7 ∧ m = v7)))) ∧ ((zcmp (i + m) (u2 38 a)) ≤ 0 → (zJ (j + m) ∧ ((0 ≤ b ∧ b < (8 : Int)) ∧ (((zcmp (j + m) (u2 38 b)) ≤ 0 → zRuns 109 zX0 (fun (v : Int) (u : zS) => ((¬ ((0 ≤ a ∧ a < 8) ∧ 0 ≤ b ∧ b < 8)) ∧ σ = u ∧ -1000001 = v) ∨ (((0 ≤ a ∧ a < 8) ∧ 0 ≤ b ∧ b < 8) ∧ (σ 37 a = 0 ∨ σ 37 b = 0) ∧ zup σ 9 4 1 = u ∧ -1000011 = v) ∨ ((((0 ≤ a ∧ a < 8) ∧ 0 ≤ b ∧ b < 8) ∧ ¬ σ 37 a = 0 ∧ ¬ σ 37 b = 0 ∧ ¬ σ 37 a = σ 37 b) ∧ zup σ 9 4 5 = u ∧ -1000015 = v) ∨ ((((0 ≤ a ∧ a < 8) ∧ 0 ≤ b ∧ b < 8) ∧ ¬ σ 37 a = 0 ∧ ¬ σ 37 b = 0 ∧ σ 37 a = σ 37 b ∧ ¬ (0 ≤ i ∧ 0 ≤ j ∧ 0 ≤ m ∧ i + m ≤ σ 38 a ∧ j + m ≤ σ 38 b)) ∧ zup σ 9 4 2 = u ∧ -1000012 = v) ∨ ((((0 ≤ a ∧ a < 8) ∧ 0 ≤ b ∧ b < 8) ∧ ¬ σ 37 a = 0 ∧ ¬ σ 37 b = 0 ∧ σ 37 a = σ 37 b ∧ 0 ≤ i ∧ 0 ≤ j ∧ 0 ≤ m ∧ i + m ≤ σ 38 a ∧ j + m ≤ σ 38 b) ∧ zup (zcp (zcp σ 39 (80 * a + i) 40 0 m) 40 0 39 (80 * b + j) m) 9 4 0 = u ∧ m = v)) 120 [some (.inr (.inr (9, 0))), some (.inl a), some (.inl i), some (.inl b), some (.inl j), some (.inl m), some (.inl (0 : Int))] [] u2) ∧ (0 < (zcmp (j + m) (u2 38 b)) → (∃ Rc : Int → zS → Prop, zAM 104 [.inr (.inr (9, 0)), .inl (2 : Int)] u2 Rc ∧ ∀ (v8 : Int) (u8 : zS), zI v8 → Rc v8 u8 → (((¬ ((0 ≤ a ∧ a < 8) ∧ 0 ≤ b ∧ b < 8)) ∧ σ = u8 ∧ -1000001 = v8) ∨ (((0 ≤ a ∧ a < 8) ∧ 0 ≤ b ∧ b < 8) ∧ (σ 37 a = 0 ∨ σ 37 b = 0) ∧ zup σ 9 4 1 = u8 ∧ -1000011 = v8) ∨ ((((0 ≤ a ∧ a < 8) ∧ 0 ≤ b ∧ b < 8) ∧ ¬ σ 37 a = 0 ∧ ¬ σ 37 b = 0 ∧ ¬ σ 37 a = σ 37 b) ∧ zup σ 9 4 5 = u8 ∧ -1000015 = v8) ∨ ((((0 ≤ a ∧ a < 8) ∧ 0 ≤ b ∧ b < 8) ∧ ¬ σ 37 a = 0 ∧ ¬ σ 37 b = 0 ∧ σ 37 a = σ 37 b ∧ ¬ (0 ≤ i ∧ 0 ≤ j ∧ 0 ≤ m ∧ i + m ≤ σ 38 a ∧ j + m ≤ σ 38 b)) ∧ zup σ 9 4 2 = u8 ∧ -1000012 = v8) ∨ ((((0 ≤ a ∧ a < 8) ∧ 0 ≤ b ∧ b < 8) ∧ ¬ σ 37 a = 0 ∧ ¬ σ 37 b = 0 ∧ σ 37 a = σ 37 b ∧ 0 ≤ i ∧ 0 ≤ j ∧ 0 ≤ m ∧ i + m ≤ σ 38 a ∧ j + m ≤ σ 38 b) ∧ zup (zcp (zcp σ 39 (80 * a + i) 40 0 m) 40 0 39 (80 * b + j) m) 9 4 0 = u8 ∧ m = v8)))))))))))))))))) ∧ (¬ (u2 37 a) = (u2 37 b) → (∃ Rc : Int → zS → Prop, zAM 104 [.inr (.inr (9, 0)), .inl (5 : Int)] u2 Rc ∧ ∀ (v9 : Int) (u9 : zS), zI v9 → Rc v9 u9 → (((¬ ((0 ≤ a ∧ a < 8) ∧ 0 ≤ b ∧ b < 8)) ∧ σ = u9 ∧ -1000001 = v9) ∨ (((0 ≤ a ∧ a < 8) ∧ 0 ≤ b ∧ b < 8) ∧ (σ 37 a = 0 ∨ σ 37 b = 0) ∧ zup σ 9 4 1 = u9 ∧ -1000011 = v9) ∨ ((((0 ≤ a ∧ a < 8) ∧ 0 ≤ b ∧ b < 8) ∧ ¬ σ 37 a = 0 ∧ ¬ σ 37 b = 0 ∧ ¬ σ 37 a = σ 37 b) ∧ zup σ 9 4 5 = u9 ∧ -1000015 = v9) ∨ ((((0 ≤ a ∧ a < 8) ∧ 0 ≤ b ∧ b < 8) ∧ ¬ σ 37 a = 0 ∧ ¬ σ 37 b = 0 ∧ σ 37 a = σ 37 b ∧ ¬ (0 ≤ i ∧ 0 ≤ j ∧ 0 ≤ m ∧ i + m ≤ σ 38 a ∧ j + m ≤ σ 38 b)) ∧ zup σ 9 4 2 = u9 ∧ -1000012 = v9) ∨ ((((0 ≤ a ∧ a < 8) ∧ 0 ≤ b ∧ b < 8) ∧ ¬ σ 37 a = 0 ∧ ¬ σ 37 b = 0 ∧ σ 37 a = σ 37 b ∧ 0 ≤ i ∧ 0 ≤ j ∧ 0 ≤ m ∧ i + m ≤ σ 38 a ∧ j + m ≤ σ 38 b) ∧ zup (zcp (zcp σ 39 (80 * a + i) 40 0 m) 40 0 39 (80 * b + j) m) 9 4 0 = u9 ∧ m = v9)))))))) ∧ ((u2 37 b) = 0 → (∃ Rc : Int → zS → Prop, zAM 104 [.inr (.inr (9, 0)), .inl (1 : Int)] u2 Rc ∧ ∀ (v10 : Int) (u10 : zS), zI v10 → Rc v10 u10 → (((¬ ((0 ≤ a ∧ a < 8) ∧ 0 ≤ b ∧ b < 8)) ∧ σ = u10 ∧ -1000001 = v10) ∨ (((0 ≤ a ∧ a < 8) ∧ 0 ≤ b ∧ b < 8) ∧ (σ 37 a = 0 ∨ σ 37 b = 0) ∧ zup σ 9 4 1 = u10 ∧ -1000011 = v10) ∨ ((((0 ≤ a ∧ a < 8) ∧ 0 ≤ b ∧ b < 8) ∧ ¬ σ 37 a = 0 ∧ ¬ σ 37 b = 0 ∧ ¬ σ 37 a = σ 37 b) ∧ zup σ 9 4 5 = u10 ∧ -1000015 = v10) ∨ ((((0 ≤ a ∧ a < 8) ∧ 0 ≤ b ∧ b < 8) ∧ ¬ σ 37 a = 0 ∧ ¬ σ 37 b = 0 ∧ σ 37 a = σ 37 b ∧ ¬ (0 ≤ i ∧ 0 ≤ j ∧ 0 ≤ m ∧ i + m ≤ σ 38 a ∧ j + m ≤ σ 38 b)) ∧ zup σ 9 4 2 = u10 ∧ -1000012 = v10) ∨ ((((0 ≤ a ∧ a < 8) ∧ 0 ≤ b ∧ b < 8) ∧ ¬ σ 37 a = 0 ∧ ¬ σ 37 b = 0 ∧ σ 37 a = σ 37 b ∧ 0 ≤ i ∧ 0 ≤ j ∧ 0 ≤ m ∧ i + m ≤ σ 38 a ∧ j + m ≤ σ 38 b) ∧ zup (zcp (zcp σ 39 (80 * a + i) 40 0 m) 40 0 39 (80 * b + j) m) 9 4 0 = u10 ∧ m = v10)))))))))) ∧ (v2 = 0 → (((¬ ((0 ≤ a ∧ a < 8) ∧ 0 ≤ b ∧ b < 8)) ∧ σ = u2 ∧ -1000001 = (-1000001 : Int)) ∨ (((0 ≤ a ∧ a < 8) ∧ 0 ≤ b ∧ b < 8) ∧ (σ 37 a = 0 ∨ σ 37 b = 0) ∧ zup σ 9 4 1 = u2 ∧ -1000011 = (-1000001 : Int)) ∨ ((((0 ≤ a ∧ a < 8) ∧ 0 ≤ b ∧ b < 8) ∧ ¬ σ 37 a = 0 ∧ ¬ σ 37 b = 0 ∧ ¬ σ 37 a = σ 37 b) ∧ zup σ 9 4 5 = u2 ∧ -1000015 = (-1000001 : Int)) ∨ ((((0 ≤ a ∧ a < 8) ∧ 0 ≤ b ∧ b < 8) ∧ ¬ σ 37 a = 0 ∧ ¬ σ 37 b = 0 ∧ σ 37 a = σ 37 b ∧ ¬ (0 ≤ i ∧ 0 ≤ j ∧ 0 ≤ m ∧ i + m ≤ σ 38 a ∧ j + m ≤ σ 38 b)) ∧ zup σ 9 4 2 = u2 ∧ -1000012 = (-1000001 : Int)) ∨ ((((0 ≤ a ∧ a < 8) ∧ 0 ≤ b ∧ b < 8) ∧ ¬ σ 37 a = 0 ∧ ¬ σ 37 b = 0 ∧ σ 37 a = σ 37 b ∧ 0 ≤ i ∧ 0 ≤ j ∧ 0 ≤ m ∧ i + m ≤ σ 38 a ∧ j + m ≤ σ 38 b) ∧ zup (zcp (zcp σ 39 (80 * a + i) 40 0 m) 40 0 39 (80 * b + j) m) 9 4 0 = u2 ∧ m = (-1000001 : Int)))))))))
  have c0 := hms a
  have c1 := hms b
  have hi9 : zI i := hL 2 (.inl i) rfl
  have hj9 : zI j := hL 4 (.inl j) rfl
  have hm9 : zI m := hL 5 (.inl m) rfl
  obtain ⟨hi8, hi7⟩ := hi9
  obtain ⟨hj8, hj7⟩ := hj9
  obtain ⟨hm8, hm7⟩ := hm9
  refine ⟨_, am_X9_isSheet, ?_⟩
  intro v1 u1 hv1
  rintro ⟨rfl, (⟨rfl, cv1⟩ | ⟨rfl, cv1⟩)⟩
  · refine ⟨?_, ?_⟩
    · exact fun h => absurd h (by decide)
    · intro _
      refine ⟨_, am_X9_isSheet, ?_⟩
      intro v2 u2 hv2
      rintro ⟨rfl, (⟨rfl, cv2⟩ | ⟨rfl, cv2⟩)⟩
      · refine ⟨?_, ?_⟩
        · intro _
          refine ⟨by (first | exact ⟨by omega, by omega⟩ | (exfalso; omega)), ?_⟩
          refine ⟨?_, ?_⟩
          · intro h3
            refine ⟨_, am_X9_finds (by decide), ?_⟩
            intro v3 u3 hv3
            intro kv3
            obtain ⟨hv3a, hv3b⟩ := hv3
            obtain ⟨rfl, w5⟩ := kv3
            first | exact Or.inl ⟨by omega, rfl, rfl⟩ | exact Or.inr (Or.inl ⟨⟨cv1, cv2⟩, by omega, rfl, by omega⟩) | exact Or.inr (Or.inr (Or.inl ⟨⟨⟨cv1, cv2⟩, by omega, by omega, by omega⟩, rfl, by omega⟩)) | exact Or.inr (Or.inr (Or.inr (Or.inl ⟨⟨⟨cv1, cv2⟩, by omega, by omega, by omega, by omega⟩, rfl, by omega⟩)))
          · intro h4
            refine ⟨by (first | exact ⟨by omega, by omega⟩ | (exfalso; omega)), ?_⟩
            refine ⟨?_, ?_⟩
            · intro h5
              refine ⟨by (first | exact ⟨by omega, by omega⟩ | (exfalso; omega)), ?_⟩
              refine ⟨by (first | exact ⟨by omega, by omega⟩ | (exfalso; omega)), ?_⟩
              refine ⟨?_, ?_⟩
              · intro h6
                refine ⟨?_, ?_⟩
                · intro h7
                  refine ⟨_, am_X9_finds (by decide), ?_⟩
                  intro v4 u4 hv4
                  intro kv4
                  obtain ⟨hv4a, hv4b⟩ := hv4
                  obtain ⟨rfl, w5⟩ := kv4
                  first | exact Or.inl ⟨by omega, rfl, rfl⟩ | exact Or.inr (Or.inl ⟨⟨cv1, cv2⟩, by omega, rfl, by omega⟩) | exact Or.inr (Or.inr (Or.inl ⟨⟨⟨cv1, cv2⟩, by omega, by omega, by omega⟩, rfl, by omega⟩)) | exact Or.inr (Or.inr (Or.inr (Or.inl ⟨⟨⟨cv1, cv2⟩, by omega, by omega, by omega, by omega⟩, rfl, by omega⟩)))
                · intro h8
                  refine ⟨?_, ?_⟩
                  · intro h9
                    refine ⟨_, am_X9_finds (by decide), ?_⟩
                    intro v5 u5 hv5
                    intro kv5
                    obtain ⟨hv5a, hv5b⟩ := hv5
                    obtain ⟨rfl, w5⟩ := kv5
                    first | exact Or.inl ⟨by omega, rfl, rfl⟩ | exact Or.inr (Or.inl ⟨⟨cv1, cv2⟩, by omega, rfl, by omega⟩) | exact Or.inr (Or.inr (Or.inl ⟨⟨⟨cv1, cv2⟩, by omega, by omega, by omega⟩, rfl, by omega⟩)) | exact Or.inr (Or.inr (Or.inr (Or.inl ⟨⟨⟨cv1, cv2⟩, by omega, by omega, by omega, by omega⟩, rfl, by omega⟩)))
                  · intro h10
                    refine ⟨?_, ?_⟩
                    · intro h11
                      refine ⟨_, am_X9_finds (by decide), ?_⟩
                      intro v6 u6 hv6
                      intro kv6
                      obtain ⟨hv6a, hv6b⟩ := hv6
                      obtain ⟨rfl, w5⟩ := kv6
                      first | exact Or.inl ⟨by omega, rfl, rfl⟩ | exact Or.inr (Or.inl ⟨⟨cv1, cv2⟩, by omega, rfl, by omega⟩) | exact Or.inr (Or.inr (Or.inl ⟨⟨⟨cv1, cv2⟩, by omega, by omega, by omega⟩, rfl, by omega⟩)) | exact Or.inr (Or.inr (Or.inr (Or.inl ⟨⟨⟨cv1, cv2⟩, by omega, by omega, by omega, by omega⟩, rfl, by omega⟩)))
                    · intro h12
                      refine ⟨by (exact ⟨by omega, by omega⟩), ?_⟩
                      refine ⟨by (first | exact ⟨by omega, by omega⟩ | (exfalso; omega)), ?_⟩
                      refine ⟨?_, ?_⟩
                      · intro h13
                        simp only [zc_lt, zc_ge, zc_gt, zc_le, zc_eq] at h13
                        refine ⟨_, am_X9_finds (by decide), ?_⟩
                        intro v7 u7 hv7
                        intro kv7
                        obtain ⟨hv7a, hv7b⟩ := hv7
                        obtain ⟨rfl, w5⟩ := kv7
                        first | exact Or.inl ⟨by omega, rfl, rfl⟩ | exact Or.inr (Or.inl ⟨⟨cv1, cv2⟩, by omega, rfl, by omega⟩) | exact Or.inr (Or.inr (Or.inl ⟨⟨⟨cv1, cv2⟩, by omega, by omega, by omega⟩, rfl, by omega⟩)) | exact Or.inr (Or.inr (Or.inr (Or.inl ⟨⟨⟨cv1, cv2⟩, by omega, by omega, by omega, by omega⟩, rfl, by omega⟩)))
                      · intro h14
                        simp only [zc_lt, zc_ge, zc_gt, zc_le, zc_eq] at h14
                        refine ⟨by (exact ⟨by omega, by omega⟩), ?_⟩
                        refine ⟨by (first | exact ⟨by omega, by omega⟩ | (exfalso; omega)), ?_⟩
                        refine ⟨?_, ?_⟩
                        · intro h15
                          simp only [zc_lt, zc_ge, zc_gt, zc_le, zc_eq] at h15
                          exact lp_cp120 hms ⟨⟨cv1, cv2⟩, by omega, by omega, by omega, by omega, by omega, by omega, by omega, by omega⟩ (m.toNat + 2) 0 σ (by omega) ⟨by omega, by omega⟩ zcp_0.symm
                        · intro h16
                          simp only [zc_lt, zc_ge, zc_gt, zc_le, zc_eq] at h16
                          refine ⟨_, am_X9_finds (by decide), ?_⟩
                          intro v8 u8 hv8
                          intro kv8
                          obtain ⟨hv8a, hv8b⟩ := hv8
                          obtain ⟨rfl, w5⟩ := kv8
                          first | exact Or.inl ⟨by omega, rfl, rfl⟩ | exact Or.inr (Or.inl ⟨⟨cv1, cv2⟩, by omega, rfl, by omega⟩) | exact Or.inr (Or.inr (Or.inl ⟨⟨⟨cv1, cv2⟩, by omega, by omega, by omega⟩, rfl, by omega⟩)) | exact Or.inr (Or.inr (Or.inr (Or.inl ⟨⟨⟨cv1, cv2⟩, by omega, by omega, by omega, by omega⟩, rfl, by omega⟩)))
              · intro h17
                refine ⟨_, am_X9_finds (by decide), ?_⟩
                intro v9 u9 hv9
                intro kv9
                obtain ⟨hv9a, hv9b⟩ := hv9
                obtain ⟨rfl, w5⟩ := kv9
                first | exact Or.inl ⟨by omega, rfl, rfl⟩ | exact Or.inr (Or.inl ⟨⟨cv1, cv2⟩, by omega, rfl, by omega⟩) | exact Or.inr (Or.inr (Or.inl ⟨⟨⟨cv1, cv2⟩, by omega, by omega, by omega⟩, rfl, by omega⟩)) | exact Or.inr (Or.inr (Or.inr (Or.inl ⟨⟨⟨cv1, cv2⟩, by omega, by omega, by omega, by omega⟩, rfl, by omega⟩)))
            · intro h18
              refine ⟨_, am_X9_finds (by decide), ?_⟩
              intro v10 u10 hv10
              intro kv10
              obtain ⟨hv10a, hv10b⟩ := hv10
              obtain ⟨rfl, w5⟩ := kv10
              first | exact Or.inl ⟨by omega, rfl, rfl⟩ | exact Or.inr (Or.inl ⟨⟨cv1, cv2⟩, by omega, rfl, by omega⟩) | exact Or.inr (Or.inr (Or.inl ⟨⟨⟨cv1, cv2⟩, by omega, by omega, by omega⟩, rfl, by omega⟩)) | exact Or.inr (Or.inr (Or.inr (Or.inl ⟨⟨⟨cv1, cv2⟩, by omega, by omega, by omega, by omega⟩, rfl, by omega⟩)))
        · exact fun h => absurd h (by decide)
      · refine ⟨?_, ?_⟩
        · exact fun h => absurd h (by decide)
        · intro _
          first | exact Or.inl ⟨by omega, rfl, rfl⟩ | exact Or.inr (Or.inl ⟨⟨cv1, cv2⟩, by omega, rfl, by omega⟩) | exact Or.inr (Or.inr (Or.inl ⟨⟨⟨cv1, cv2⟩, by omega, by omega, by omega⟩, rfl, by omega⟩)) | exact Or.inr (Or.inr (Or.inr (Or.inl ⟨⟨⟨cv1, cv2⟩, by omega, by omega, by omega, by omega⟩, rfl, by omega⟩)))
  · refine ⟨?_, ?_⟩
    · intro _
      first | exact Or.inl ⟨by omega, rfl, rfl⟩ | exact Or.inr (Or.inl ⟨⟨cv1, cv2⟩, by omega, rfl, by omega⟩) | exact Or.inr (Or.inr (Or.inl ⟨⟨⟨cv1, cv2⟩, by omega, by omega, by omega⟩, rfl, by omega⟩)) | exact Or.inr (Or.inr (Or.inr (Or.inl ⟨⟨⟨cv1, cv2⟩, by omega, by omega, by omega, by omega⟩, rfl, by omega⟩)))
    · exact fun h => absurd h (by decide)
set_option maxRecDepth 100000 in
set_option maxHeartbeats 4000000 in
theorem am_X8_unteach {σ : zS} {lo : Int} {q9 : Nat} (ht : 0 ≤ σ 3 8 ∧ σ 3 8 ≤ 50) (hl : ¬ σ 3 8 = 0 → σ 27 (σ 3 8 - 1) = lo) (h0 : 0 ≤ lo) (hm : σ 3 6 = lo + (q9 : Int)) (hu : σ 3 6 ≤ 1024) (hs : ∀ j : Int, lo ≤ j → j < σ 3 6 → 0 ≤ σ 25 j ∧ σ 25 j < 1188) : zAM 69 [.inr (.inr (0, 0))] σ (fun (v : Int) (u : zS) => (σ 3 8 = 0 ∧ σ = u ∧ -1000000 = v) ∨ (¬ σ 3 8 = 0 ∧ zup (zup (zcell (zup σ 3 8 (σ 3 8 - 1)) 22 (zund (σ 25) (σ 26) lo q9 (σ 22))) 3 6 lo) 0 4 (-1) = u ∧ σ 3 8 - 1 = v)) := by
  refine zam (by decide) (Nat.le_of_ble_eq_true rfl) ?_
  refine zwalk zmk_69 [] 3 ?_
  show ((¬ (σ 3 (8 : Int)) = 0 → (∃ Rc : Int → zS → Prop, zAM 4 [.inr (.inr (3, 0))] σ Rc ∧ ∀ (u1 : zS), Rc 0 u1 → ((σ 3 8 = 0 ∧ σ = (zup u1 0 (4 : Int) (-1 : Int)) ∧ -1000000 = (u1 3 (8 : Int))) ∨ (¬ σ 3 8 = 0 ∧ zup (zup (zcell (zup σ 3 8 (σ 3 8 - 1)) 22 (zund (σ 25) (σ 26) lo q9 (σ 22))) 3 6 lo) 0 4 (-1) = (zup u1 0 (4 : Int) (-1 : Int)) ∧ σ 3 8 - 1 = (u1 3 (8 : Int)))))) ∧ ((σ 3 (8 : Int)) = 0 → ((σ 3 8 = 0 ∧ σ = σ ∧ -1000000 = (-1000000 : Int)) ∨ (¬ σ 3 8 = 0 ∧ zup (zup (zcell (zup σ 3 8 (σ 3 8 - 1)) 22 (zund (σ 25) (σ 26) lo q9 (σ 22))) 3 6 lo) 0 4 (-1) = σ ∧ σ 3 8 - 1 = (-1000000 : Int)))))
  refine ⟨?_, ?_⟩
  · intro h1
    refine ⟨_, am_X0_undoTeaching (lo := lo) (m := q9) (by omega) (hl (by omega)) (h0) (hm) (hu) (hs), ?_⟩
    intro u1
    intro kv1
    obtain rfl := kv1
    first | exact Or.inl ⟨by omega, rfl, rfl⟩ | exact Or.inr ⟨by omega, rfl, rfl⟩
  · intro h2
    first | exact Or.inl ⟨by omega, rfl, rfl⟩ | exact Or.inr ⟨by omega, rfl, rfl⟩
