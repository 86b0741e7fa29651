theorem zIn_iff {x f : Int → Int} {p i a b : Int} {m : Nat} (ha : f i = a) (hb : f (i + 1) = b) (hm : b = a + ((m + 1 : Nat) : Int)) (hx : 0 ≤ x a ∧ x a ≤ 2000) : zIn x f p i = true ↔ zmn x a (x a) (m + 1) - 5 ≤ p ∧ p ≤ zmx x a (x a) (m + 1) + 5 := by
  unfold zIn
  rw [decide_eq_true_eq, ha, hb, show (b - a).toNat = m + 1 by omega, zmn_big (by omega), zmx_big (by omega)]
set_option maxRecDepth 100000 in
set_option maxHeartbeats 4000000 in
theorem lp_minmax {σ : zS} {R : Int → zS → Prop} {p i a b : Int} (hi : 0 ≤ i ∧ i < 40) (hb : σ 20 (i + 1) = b) (h0 : 0 ≤ a ∧ a < b ∧ b ≤ 40) (hx : ∀ j : Int, a ≤ j → j < b → 0 ≤ σ 17 j ∧ σ 17 j ≤ 2000) (K : zRuns 19 zX0 R 78 [some (.inr (.inr (2, 0))), some (.inl p), some (.inl i), some (.inl (zmn (σ 17) a (σ 17 a) (b - a).toNat)), some (.inl (zmx (σ 17) a (σ 17 a) (b - a).toNat)), none] [] σ) : ∀ (n m : Nat), a + (m : Int) + (n : Int) = b → zRuns 19 zX0 R 33 [some (.inr (.inr (2, 0))), some (.inl p), some (.inl i), some (.inl (zmn (σ 17) a (σ 17 a) m)), some (.inl (zmx (σ 17) a (σ 17 a) m)), some (.inl (a + (m : Int)))] [] σ := by
  intro n
  induction n with
  | zero =>
    intro m hm
    refine zwalk zmk_19 [(2, [true, true, true, false, false, false]), (33, [true, true, true, true, true, true]), (78, [true, true, true, true, true, false])] 2 ?_
    show (zI (i + (1 : Int)) ∧ ((0 ≤ (i + (1 : Int)) ∧ (i + (1 : Int)) < (41 : Int)) ∧ (((σ 20 (i + (1 : Int))) ≤ (a + (m : Int)) → zRuns 19 zX0 R 78 [some (.inr (.inr (2, 0))), some (.inl p), some (.inl i), some (.inl (zmn (σ 17) a (σ 17 a) m)), some (.inl (zmx (σ 17) a (σ 17 a) m)), none] [] σ) ∧ ((a + (m : Int)) < (σ 20 (i + (1 : Int))) → ((0 ≤ (a + (m : Int)) ∧ (a + (m : Int)) < (40 : Int)) ∧ ((0 ≤ (a + (m : Int)) ∧ (a + (m : Int)) < (40 : Int)) ∧ (zI ((a + (m : Int)) + (1 : Int)) ∧ zRuns 19 zX0 R 33 [some (.inr (.inr (2, 0))), some (.inl p), some (.inl i), some (.inl (min (zmn (σ 17) a (σ 17 a) m) (σ 17 (a + (m : Int))))), some (.inl (max (zmx (σ 17) a (σ 17 a) m) (σ 17 (a + (m : Int))))), some (.inl ((a + (m : Int)) + (1 : Int)))] [] σ)))))))
    refine ⟨by (first | exact ⟨by omega, by omega⟩ | (exfalso; omega)), ?_⟩
    refine ⟨by (first | exact ⟨by omega, by omega⟩ | (exfalso; omega)), ?_⟩
    refine ⟨?_, ?_⟩
    · intro h1
      rw [show (b - a).toNat = m by omega] at K
      exact K
    · intro h2
      refine ⟨by (first | exact ⟨by omega, by omega⟩ | (exfalso; omega)), ?_⟩
      refine ⟨by (first | exact ⟨by omega, by omega⟩ | (exfalso; omega)), ?_⟩
      refine ⟨by (first | exact ⟨by omega, by omega⟩ | (exfalso; omega)), ?_⟩
      exfalso; omega
  | succ n ih =>
    intro m hm
    have hx1 := hx (a + (m : Int)) (by omega) (by omega)
    have e1 : a + ((m + 1 : Nat) : Int) = a + (m : Int) + 1 := by omega
    have hI := ih (m + 1) (by omega)
    rw [e1] at hI
    refine zwalk zmk_19 [(2, [true, true, true, false, false, false]), (33, [true, true, true, true, true, true]), (78, [true, true, true, true, true, false])] 2 ?_
    show (zI (i + (1 : Int)) ∧ ((0 ≤ (i + (1 : Int)) ∧ (i + (1 : Int)) < (41 : Int)) ∧ (((σ 20 (i + (1 : Int))) ≤ (a + (m : Int)) → zRuns 19 zX0 R 78 [some (.inr (.inr (2, 0))), some (.inl p), some (.inl i), some (.inl (zmn (σ 17) a (σ 17 a) m)), some (.inl (zmx (σ 17) a (σ 17 a) m)), none] [] σ) ∧ ((a + (m : Int)) < (σ 20 (i + (1 : Int))) → ((0 ≤ (a + (m : Int)) ∧ (a + (m : Int)) < (40 : Int)) ∧ ((0 ≤ (a + (m : Int)) ∧ (a + (m : Int)) < (40 : Int)) ∧ (zI ((a + (m : Int)) + (1 : Int)) ∧ zRuns 19 zX0 R 33 [some (.inr (.inr (2, 0))), some (.inl p), some (.inl i), some (.inl (min (zmn (σ 17) a (σ 17 a) m) (σ 17 (a + (m : Int))))), some (.inl (max (zmx (σ 17) a (σ 17 a) m) (σ 17 (a + (m : Int))))), some (.inl ((a + (m : Int)) + (1 : Int)))] [] σ)))))))
    refine ⟨by (first | exact ⟨by omega, by omega⟩ | (exfalso; omega)), ?_⟩
    refine ⟨by (first | exact ⟨by omega, by omega⟩ | (exfalso; omega)), ?_⟩
    refine ⟨?_, ?_⟩
    · intro h1
      exfalso; omega
    · intro h2
      refine ⟨by (first | exact ⟨by omega, by omega⟩ | (exfalso; omega)), ?_⟩
      refine ⟨by (first | exact ⟨by omega, by omega⟩ | (exfalso; omega)), ?_⟩
      refine ⟨by (first | exact ⟨by omega, by omega⟩ | (exfalso; omega)), ?_⟩
      exact hI
set_option maxRecDepth 100000 in
set_option maxHeartbeats 4000000 in
theorem lp_under {σ : zS} {p : Int} (hL : zLF σ) (hp : 0 ≤ p ∧ p ≤ 2000) : ∀ (n k : Nat), (k : Int) + (n : Int) = σ 2 10 → (∀ j : Int, 0 ≤ j → j < k → zIn (σ 17) (σ 20) p j = false) → zRuns 19 zX0 (fun (v : Int) (u : zS) => σ = u ∧ zfi (zIn (σ 17) (σ 20) p) (σ 2 10).toNat = v) 2 [some (.inr (.inr (2, 0))), some (.inl p), some (.inl (k : Int)), none, none, none] [] σ := by
  intro n
  induction n with
  | zero =>
    intro k hk hj
    obtain ⟨l0, l1, l2, l3⟩ := hL
    refine zwalk zmk_19 [(2, [true, true, true, false, false, false]), (33, [true, true, true, true, true, true])] 3 ?_
    show (((σ 2 (10 : Int)) ≤ (k : Int) → (σ = σ ∧ zfi (zIn (σ 17) (σ 20) p) (σ 2 10).toNat = (-1 : Int))) ∧ ((k : Int) < (σ 2 (10 : Int)) → ((0 ≤ (k : Int) ∧ (k : Int) < (41 : Int)) ∧ ((0 ≤ (σ 20 (k : Int)) ∧ (σ 20 (k : Int)) < (40 : Int)) ∧ ((0 ≤ (k : Int) ∧ (k : Int) < (41 : Int)) ∧ zRuns 19 zX0 (fun (v : Int) (u : zS) => σ = u ∧ zfi (zIn (σ 17) (σ 20) p) (σ 2 10).toNat = v) 33 [some (.inr (.inr (2, 0))), some (.inl p), some (.inl (k : Int)), some (.inl (σ 17 (σ 20 (k : Int)))), some (.inl (σ 17 (σ 20 (k : Int)))), some (.inl (σ 20 (k : Int)))] [] σ)))))
    refine ⟨?_, ?_⟩
    · intro h1
      first | exact ⟨rfl, zfi_none (fun j a b => hj j a (by omega))⟩ | (exfalso; omega)
    · intro h2
      refine ⟨by (first | exact ⟨by omega, by omega⟩ | (exfalso; omega)), ?_⟩
      refine ⟨by (first | exact ⟨by omega, by omega⟩ | (exfalso; omega)), ?_⟩
      refine ⟨by (first | exact ⟨by omega, by omega⟩ | (exfalso; omega)), ?_⟩
      exfalso; omega
  | succ n ih =>
    intro k hk hj
    have hL9 := hL
    obtain ⟨l0, l1, l2, l3⟩ := hL9
    have hk2 := l2 k (by omega) (by omega)
    have hle : ∀ j : Int, 0 ≤ j → j ≤ σ 2 10 → σ 20 j ≤ σ 20 (σ 2 10) := by
      intro j j0 j1
      obtain ⟨d, hd⟩ : ∃ d : Nat, j + (d : Int) = σ 2 10 := ⟨(σ 2 10 - j).toNat, by omega⟩
      induction d generalizing j with
      | zero => rw [show j = σ 2 10 by omega]; exact Int.le_refl _
      | succ d ih2 =>
        have := ih2 (j + 1) (by omega) (by omega) (by omega)
        have := l2 j j0 (by omega)
        omega
    have hk3 := hle ((k : Int) + 1) (by omega) (by omega)
    obtain ⟨a, ha⟩ : ∃ a, σ 20 (k : Int) = a := ⟨_, rfl⟩
    obtain ⟨b, hb⟩ : ∃ b, σ 20 ((k : Int) + 1) = b := ⟨_, rfl⟩
    have hx : ∀ j : Int, a ≤ j → j < b → 0 ≤ σ 17 j ∧ σ 17 j ≤ 2000 := fun j q1 q2 => l3 j (by omega) (by omega) (by omega)
    have hxa := hx a (Int.le_refl _) (by omega)
    have hiff := zIn_iff (x := σ 17) (p := p) ha hb (m := (b - a).toNat - 1) (by omega) hxa
    rw [show (b - a).toNat - 1 + 1 = (b - a).toNat by omega] at hiff
    have r1 := zmn_r (x := σ 17) (a := a) (b - a).toNat (fun j q1 q2 => hx j q1 (by omega)) (σ 17 a) (by omega) (by omega)
    have r2 := zmx_r (x := σ 17) (a := a) (b - a).toNat (fun j q1 q2 => hx j q1 (by omega)) (σ 17 a) (by omega) (by omega)
    have K : zRuns 19 zX0 (fun (v : Int) (u : zS) => σ = u ∧ zfi (zIn (σ 17) (σ 20) p) (σ 2 10).toNat = v) 78 [some (.inr (.inr (2, 0))), some (.inl p), some (.inl (k : Int)), some (.inl (zmn (σ 17) a (σ 17 a) (b - a).toNat)), some (.inl (zmx (σ 17) a (σ 17 a) (b - a).toNat)), none] [] σ := by
      refine zwalk zmk_19 [(2, [true, true, true, false, false, false]), (33, [true, true, true, true, true, true])] 3 ?_
      show (zI ((zmn (σ 17) a (σ 17 a) (b - a).toNat) - (5 : Int)) ∧ ((p < ((zmn (σ 17) a (σ 17 a) (b - a).toNat) - (5 : Int)) → (zI ((k : Int) + (1 : Int)) ∧ zRuns 19 zX0 (fun (v : Int) (u : zS) => σ = u ∧ zfi (zIn (σ 17) (σ 20) p) (σ 2 10).toNat = v) 2 [some (.inr (.inr (2, 0))), some (.inl p), some (.inl ((k : Int) + (1 : Int))), none, none, none] [] σ)) ∧ (((zmn (σ 17) a (σ 17 a) (b - a).toNat) - (5 : Int)) ≤ p → (zI ((zmx (σ 17) a (σ 17 a) (b - a).toNat) + (5 : Int)) ∧ ((((zmx (σ 17) a (σ 17 a) (b - a).toNat) + (5 : Int)) < p → (zI ((k : Int) + (1 : Int)) ∧ zRuns 19 zX0 (fun (v : Int) (u : zS) => σ = u ∧ zfi (zIn (σ 17) (σ 20) p) (σ 2 10).toNat = v) 2 [some (.inr (.inr (2, 0))), some (.inl p), some (.inl ((k : Int) + (1 : Int))), none, none, none] [] σ)) ∧ (p ≤ ((zmx (σ 17) a (σ 17 a) (b - a).toNat) + (5 : Int)) → (σ = σ ∧ zfi (zIn (σ 17) (σ 20) p) (σ 2 10).toNat = (k : Int))))))))
      refine ⟨by (first | exact ⟨by omega, by omega⟩ | (exfalso; omega)), ?_⟩
      refine ⟨?_, ?_⟩
      · intro h1
        refine ⟨by (first | exact ⟨by omega, by omega⟩ | (exfalso; omega)), ?_⟩
        have e1 : ((k + 1 : Nat) : Int) = (k : Int) + 1 := by omega
        have hI := ih (k + 1) (by omega) (fun j q1 q2 => by
          by_cases e : j = k
          · cases hz : zIn (σ 17) (σ 20) p j with
            | false => rfl
            | true => rw [e] at hz; have := hiff.mp hz; omega
          · exact hj j q1 (by omega))
        rw [e1] at hI
        exact hI
      · intro h2
        refine ⟨by (first | exact ⟨by omega, by omega⟩ | (exfalso; omega)), ?_⟩
        refine ⟨?_, ?_⟩
        · intro h3
          refine ⟨by (first | exact ⟨by omega, by omega⟩ | (exfalso; omega)), ?_⟩
          have e1 : ((k + 1 : Nat) : Int) = (k : Int) + 1 := by omega
          have hI := ih (k + 1) (by omega) (fun j q1 q2 => by
            by_cases e : j = k
            · cases hz : zIn (σ 17) (σ 20) p j with
              | false => rfl
              | true => rw [e] at hz; have := hiff.mp hz; omega
            · exact hj j q1 (by omega))
          rw [e1] at hI
          exact hI
        · intro h4
          exact ⟨rfl, zfi_some (by omega) (hiff.mpr (by omega)) (fun j q1 q2 => hj j q1 q2) (by omega)⟩
    refine zwalk zmk_19 [(2, [true, true, true, false, false, false]), (33, [true, true, true, true, true, true])] 3 ?_
    show (((σ 2 (10 : Int)) ≤ (k : Int) → (σ = σ ∧ zfi (zIn (σ 17) (σ 20) p) (σ 2 10).toNat = (-1 : Int))) ∧ ((k : Int) < (σ 2 (10 : Int)) → ((0 ≤ (k : Int) ∧ (k : Int) < (41 : Int)) ∧ ((0 ≤ (σ 20 (k : Int)) ∧ (σ 20 (k : Int)) < (40 : Int)) ∧ ((0 ≤ (k : Int) ∧ (k : Int) < (41 : Int)) ∧ zRuns 19 zX0 (fun (v : Int) (u : zS) => σ = u ∧ zfi (zIn (σ 17) (σ 20) p) (σ 2 10).toNat = v) 33 [some (.inr (.inr (2, 0))), some (.inl p), some (.inl (k : Int)), some (.inl (σ 17 (σ 20 (k : Int)))), some (.inl (σ 17 (σ 20 (k : Int)))), some (.inl (σ 20 (k : Int)))] [] σ)))))
    refine ⟨?_, ?_⟩
    · intro h1
      exfalso; omega
    · intro h2
      refine ⟨by (first | exact ⟨by omega, by omega⟩ | (exfalso; omega)), ?_⟩
      refine ⟨by (first | exact ⟨by omega, by omega⟩ | (exfalso; omega)), ?_⟩
      refine ⟨by (first | exact ⟨by omega, by omega⟩ | (exfalso; omega)), ?_⟩
      have hI := lp_minmax (p := p) (i := (k : Int)) (by omega) hb (by omega) hx K (b - a).toNat 0 (by omega)
      rw [show a + ((0 : Nat) : Int) = σ 20 (k : Int) by omega] at hI
      have e9 : zmn (σ 17) a (σ 17 a) 0 = σ 17 (σ 20 (k : Int)) := by rw [ha]; rfl
      have e8 : zmx (σ 17) a (σ 17 a) 0 = σ 17 (σ 20 (k : Int)) := by rw [ha]; rfl
      rw [e9, e8] at hI
      exact hI
set_option maxRecDepth 100000 in
set_option maxHeartbeats 4000000 in
theorem am_X2_inkUnder {σ : zS} {p : Int} (hL : zLF σ) (hp : 0 ≤ p ∧ p ≤ 2000) : zAM 19 [.inr (.inr (2, 0)), .inl p] σ (fun (v : Int) (u : zS) => σ = u ∧ zfi (zIn (σ 17) (σ 20) p) (σ 2 10).toNat = v) := by
  refine zam (by decide) (Nat.le_of_ble_eq_true rfl) ?_
  refine zwalk zmk_19 [(2, [true, true, true, false, false, false])] 2 ?_
  show zRuns 19 zX0 (fun (v : Int) (u : zS) => σ = u ∧ zfi (zIn (σ 17) (σ 20) p) (σ 2 10).toNat = v) 2 [some (.inr (.inr (2, 0))), some (.inl p), some (.inl (0 : Int)), none, none, none] [] σ
  have h9 := hL.1
  exact lp_under hL hp (σ 2 10).toNat 0 (by omega) (fun j a b => absurd b (by omega))
