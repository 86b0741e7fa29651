def zPO (x y : Int) : Prop := 0 ≤ x ∧ x ≤ 2000 ∧ 0 ≤ y ∧ y ≤ 12
def zrX (σ : zS) (o i j : Int) : Int := σ 65 (o + (i + 2 * j))
def zrS (σ : zS) (o i j : Int) : Int := σ 65 (o + (i + 2 * j + 1))
def zPOs (σ : zS) (o i n : Int) : Prop := ∀ j : Int, 0 ≤ j → j < n → zPO (zrX σ o i j) (zrS σ o i j)
set_option maxRecDepth 100000 in
set_option maxHeartbeats 4000000 in
theorem lp_holds {s : Int} {i : Int} {c : Int} {σ : zS} (hs : 0 ≤ s ∧ s < 8) (hi : 0 ≤ i ∧ 0 ≤ c ∧ i + 2 * c ≤ 80) : ∀ (n : Nat) (k : Int), c - k < (n : Int) → (0 ≤ k ∧ k ≤ c) → (∀ j : Int, 0 ≤ j → j < k → zPO (zrX σ (80 * s) i j) (zrS σ (80 * s) i j)) → zRuns 42 zX0 (fun (v : Int) (u : zS) => σ = u ∧ (v = 1 ∧ zPOs σ (80 * s) i c ∨ v = 0 ∧ ¬ zPOs σ (80 * s) i c)) 3 [some (.inr (.inr (1, 0))), some (.inl s), some (.inl i), some (.inl c), some (.inl k), none, none] [] σ := by
  intro n
  induction n with
  | zero =>
    intro k hn q0 qj
    exfalso
    omega
  | succ n ih =>
    intro k hn q0 qj
    refine zwalk zmk_42 [(3, [true, true, true, true, true, false, false])] 3 ?_
    show ((c ≤ k → (((1 : Int) = 0 ∨ (1 : Int) = 1) ∧ (σ = σ ∧ ((1 : Int) = 1 ∧ zPOs σ (80 * s) i c ∨ (1 : Int) = 0 ∧ ¬ zPOs σ (80 * s) i c)))) ∧ (k < c → ((0 ≤ s ∧ s < 8) ∧ (zI ((2 : Int) * k) ∧ (zI (i + ((2 : Int) * k)) ∧ ((0 ≤ (i + ((2 : Int) * k)) ∧ (i + ((2 : Int) * k)) < 80) ∧ ((0 ≤ s ∧ s < 8) ∧ (zI ((2 : Int) * k) ∧ (zI (i + ((2 : Int) * k)) ∧ (zI ((i + ((2 : Int) * k)) + (1 : Int)) ∧ ((0 ≤ ((i + ((2 : Int) * k)) + (1 : Int)) ∧ ((i + ((2 : Int) * k)) + (1 : Int)) < 80) ∧ (((σ 65 ((80 * s) + (i + ((2 : Int) * k)))) < 0 → (((0 : Int) = 0 ∨ (0 : Int) = 1) ∧ (σ = σ ∧ ((0 : Int) = 1 ∧ zPOs σ (80 * s) i c ∨ (0 : Int) = 0 ∧ ¬ zPOs σ (80 * s) i c)))) ∧ (0 ≤ (σ 65 ((80 * s) + (i + ((2 : Int) * k)))) → (((2000 : Int) < (σ 65 ((80 * s) + (i + ((2 : Int) * k)))) → (((0 : Int) = 0 ∨ (0 : Int) = 1) ∧ (σ = σ ∧ ((0 : Int) = 1 ∧ zPOs σ (80 * s) i c ∨ (0 : Int) = 0 ∧ ¬ zPOs σ (80 * s) i c)))) ∧ ((σ 65 ((80 * s) + (i + ((2 : Int) * k)))) ≤ (2000 : Int) → (((σ 65 ((80 * s) + ((i + ((2 : Int) * k)) + (1 : Int)))) < 0 → (((0 : Int) = 0 ∨ (0 : Int) = 1) ∧ (σ = σ ∧ ((0 : Int) = 1 ∧ zPOs σ (80 * s) i c ∨ (0 : Int) = 0 ∧ ¬ zPOs σ (80 * s) i c)))) ∧ (0 ≤ (σ 65 ((80 * s) + ((i + ((2 : Int) * k)) + (1 : Int)))) → (((σ 65 ((80 * s) + ((i + ((2 : Int) * k)) + (1 : Int)))) ≤ (12 : Int) → (zI (k + (1 : Int)) ∧ zRuns 42 zX0 (fun (v : Int) (u : zS) => σ = u ∧ (v = 1 ∧ zPOs σ (80 * s) i c ∨ v = 0 ∧ ¬ zPOs σ (80 * s) i c)) 3 [some (.inr (.inr (1, 0))), some (.inl s), some (.inl i), some (.inl c), some (.inl (k + (1 : Int))), none, none] [] σ)) ∧ ((12 : Int) < (σ 65 ((80 * s) + ((i + ((2 : Int) * k)) + (1 : Int)))) → (((0 : Int) = 0 ∨ (0 : Int) = 1) ∧ (σ = σ ∧ ((0 : Int) = 1 ∧ zPOs σ (80 * s) i c ∨ (0 : Int) = 0 ∧ ¬ zPOs σ (80 * s) i c))))))))))))))))))))))
    refine ⟨?_, ?_⟩
    · intro h1
      refine ⟨by (omega), ?_⟩
      exact ⟨rfl, Or.inl ⟨rfl, fun j j0 j1 => qj j j0 (by omega)⟩⟩
    · intro h2
      refine ⟨by (first | omega | exact ⟨by omega, by omega⟩ | exact ⟨by omega, by omega, by omega⟩ | exact ⟨by omega, by omega, by omega, by omega, by omega⟩), ?_⟩
      refine ⟨by (exact ⟨by omega, by omega⟩), ?_⟩
      refine ⟨by (exact ⟨by omega, by omega⟩), ?_⟩
      refine ⟨by (first | omega | exact ⟨by omega, by omega⟩ | exact ⟨by omega, by omega, by omega⟩ | exact ⟨by omega, by omega, by omega, by omega, by omega⟩), ?_⟩
      refine ⟨by (first | omega | exact ⟨by omega, by omega⟩ | exact ⟨by omega, by omega, by omega⟩ | exact ⟨by omega, by omega, by omega, by omega, by omega⟩), ?_⟩
      refine ⟨by (exact ⟨by omega, by omega⟩), ?_⟩
      refine ⟨by (exact ⟨by omega, by omega⟩), ?_⟩
      refine ⟨by (exact ⟨by omega, by omega⟩), ?_⟩
      refine ⟨by (first | omega | exact ⟨by omega, by omega⟩ | exact ⟨by omega, by omega, by omega⟩ | exact ⟨by omega, by omega, by omega, by omega, by omega⟩), ?_⟩
      refine ⟨?_, ?_⟩
      · intro h3
        refine ⟨by (omega), ?_⟩
        refine ⟨rfl, Or.inr ⟨rfl, fun q => ?_⟩⟩
        have q9 := q k (by omega) (by omega)
        unfold zPO zrX zrS at q9
        omega
      · intro h4
        refine ⟨?_, ?_⟩
        · intro h5
          refine ⟨by (omega), ?_⟩
          refine ⟨rfl, Or.inr ⟨rfl, fun q => ?_⟩⟩
          have q9 := q k (by omega) (by omega)
          unfold zPO zrX zrS at q9
          omega
        · intro h6
          refine ⟨?_, ?_⟩
          · intro h7
            refine ⟨by (omega), ?_⟩
            refine ⟨rfl, Or.inr ⟨rfl, fun q => ?_⟩⟩
            have q9 := q k (by omega) (by omega)
            unfold zPO zrX zrS at q9
            omega
          · intro h8
            refine ⟨?_, ?_⟩
            · intro h9
              refine ⟨by (exact ⟨by omega, by omega⟩), ?_⟩
              exact ih _ (by omega) (by omega) (fun j j0 j1 => by
                by_cases e : j = k
                · rw [e]; exact ⟨by assumption, by assumption, by assumption, by assumption⟩
                · exact qj j j0 (by omega))
            · intro h10
              refine ⟨by (omega), ?_⟩
              refine ⟨rfl, Or.inr ⟨rfl, fun q => ?_⟩⟩
              have q9 := q k (by omega) (by omega)
              unfold zPO zrX zrS at q9
              omega
set_option maxRecDepth 100000 in
set_option maxHeartbeats 4000000 in
theorem am_X5_holdsPieces {σ : zS} {s : Int} {i : Int} {c : Int} (hs : 0 ≤ s ∧ s < 8) (hi : 0 ≤ i ∧ 0 ≤ c ∧ i + 2 * c ≤ 80) : zAM 42 [.inr (.inr (1, 0)), .inl s, .inl i, .inl c] σ (fun (v : Int) (u : zS) => σ = u ∧ (v = 1 ∧ zPOs σ (80 * s) i c ∨ v = 0 ∧ ¬ zPOs σ (80 * s) i c)) := by
  refine zam (by decide) (Nat.le_of_ble_eq_true rfl) ?_
  refine zwalk zmk_42 [(3, [true, true, true, true, true, false, false])] 2 ?_
  show zRuns 42 zX0 (fun (v : Int) (u : zS) => σ = u ∧ (v = 1 ∧ zPOs σ (80 * s) i c ∨ v = 0 ∧ ¬ zPOs σ (80 * s) i c)) 3 [some (.inr (.inr (1, 0))), some (.inl s), some (.inl i), some (.inl c), some (.inl (0 : Int)), none, none] [] σ
  exact lp_holds hs hi 81 0 (by omega) (by omega) (fun j _ _ => by omega)
set_option maxRecDepth 100000 in
set_option maxHeartbeats 4000000 in
theorem lp_write {σ : zS} {s i : Int} {n : Nat} (hs : 0 ≤ s ∧ s < 8) (hi : 0 ≤ i ∧ i + 2 * (n : Int) ≤ 80) (hn40 : n ≤ 40) (hp : zPOs σ (80 * s) i n) : ∀ (m k : Nat) (t : zS), k + m = n → zfr [15, 16] σ t → (∀ j : Int, 0 ≤ j → j < (k : Int) → t 15 j = zrX σ (80 * s) i j ∧ t 16 j = zrS σ (80 * s) i j) → zRuns 14 zX0 (fun (v : Int) (u : zS) => zfr [2, 15, 16, 17, 18, 19, 20, 21] σ u ∧ (∀ j : Int, ¬ j = 2 → ¬ j = 7 → ¬ j = 10 → ¬ j = 11 → u 2 j = σ 2 j) ∧ u 2 2 = (n : Int) ∧ (∀ j : Int, 0 ≤ j → j < (n : Int) → u 15 j = zrX σ (80 * s) i j ∧ u 16 j = zrS σ (80 * s) i j) ∧ zLC (u 15) (u 16) (σ 2 3) n u) 3 [some (.inr (.inr (2, 0))), some (.inr (.inr (65, (80 * s)))), some (.inl i), some (.inl (n : Int)), some (.inl (k : Int))] [] t := by
  intro m
  induction m with
  | zero =>
    intro k t hk hf ha
    obtain rfl : n = k := by omega
    have b65 : t 65 = σ 65 := hf 65 (by decide)
    refine zwalk zmk_14 [(3, [true, true, true, true, true])] 3 ?_
    show (((n : Int) ≤ (n : Int) → (∃ Rc : Int → zS → Prop, zAM 15 [.inr (.inr (2, 0))] (zup t 2 (2 : Int) (n : Int)) Rc ∧ ∀ (u1 : zS), Rc 0 u1 → (zfr [2, 15, 16, 17, 18, 19, 20, 21] σ u1 ∧ (∀ j : Int, ¬ j = 2 → ¬ j = 7 → ¬ j = 10 → ¬ j = 11 → u1 2 j = σ 2 j) ∧ u1 2 2 = (n : Int) ∧ (∀ j : Int, 0 ≤ j → j < (n : Int) → u1 15 j = zrX σ (80 * s) i j ∧ u1 16 j = zrS σ (80 * s) i j) ∧ zLC (u1 15) (u1 16) (σ 2 3) n u1))) ∧ ((n : Int) < (n : Int) → (zI ((2 : Int) * (n : Int)) ∧ (zI (i + ((2 : Int) * (n : Int))) ∧ ((0 ≤ (i + ((2 : Int) * (n : Int))) ∧ (i + ((2 : Int) * (n : Int))) < 80) ∧ ((0 ≤ (n : Int) ∧ (n : Int) < (40 : Int)) ∧ (zI ((2 : Int) * (n : Int)) ∧ (zI (i + ((2 : Int) * (n : Int))) ∧ (zI ((i + ((2 : Int) * (n : Int))) + (1 : Int)) ∧ ((0 ≤ ((i + ((2 : Int) * (n : Int))) + (1 : Int)) ∧ ((i + ((2 : Int) * (n : Int))) + (1 : Int)) < 80) ∧ ((0 ≤ (n : Int) ∧ (n : Int) < (40 : Int)) ∧ (zI ((n : Int) + (1 : Int)) ∧ zRuns 14 zX0 (fun (v : Int) (u : zS) => zfr [2, 15, 16, 17, 18, 19, 20, 21] σ u ∧ (∀ j : Int, ¬ j = 2 → ¬ j = 7 → ¬ j = 10 → ¬ j = 11 → u 2 j = σ 2 j) ∧ u 2 2 = (n : Int) ∧ (∀ j : Int, 0 ≤ j → j < (n : Int) → u 15 j = zrX σ (80 * s) i j ∧ u 16 j = zrS σ (80 * s) i j) ∧ zLC (u 15) (u 16) (σ 2 3) n u) 3 [some (.inr (.inr (2, 0))), some (.inr (.inr (65, (80 * s)))), some (.inl i), some (.inl (n : Int)), some (.inl ((n : Int) + (1 : Int)))] [] (zup (zup t 15 (n : Int) (t 65 ((80 * s) + (i + ((2 : Int) * (n : Int)))))) 16 (n : Int) (t 65 ((80 * s) + ((i + ((2 : Int) * (n : Int))) + (1 : Int)))))))))))))))))
    refine ⟨?_, ?_⟩
    · intro h1
      refine ⟨_, am_X2_part (n := n) (rfl) (hn40) (by
    intro j q1 q2
    have e1 : (zup t 2 2 (n : Int)) 15 j = zrX σ (80 * s) i j := (ha j q1 q2).1
    rw [e1]
    have := hp j q1 q2
    exact ⟨this.1, this.2.1⟩), ?_⟩
      intro u1
      intro kv1
      obtain ⟨f1, a1, a2⟩ := kv1
      have c15 : u1 15 = t 15 := f1 15 (by decide)
      have c16 : u1 16 = t 16 := f1 16 (by decide)
      refine ⟨fun k hk => ?_, fun j j1 j2 j3 j4 => ?_, ?_, ?_, ?_⟩
      · have hk1 : k ∉ [2, 17, 18, 19, 20, 21] := fun q => hk (by simp at q ⊢; omega)
        have hk2 : k ∉ [15, 16] := fun q => hk (by simp at q ⊢; omega)
        have hk3 : ¬ k = 2 := fun q => hk (by simp [q])
        rw [f1 k hk1, zup_ne hk3, hf k hk2]
      · rw [a1 j j2 j3 j4, zup_at, if_neg j1, hf 2 (by decide)]
      · exact a1 2 (by decide) (by decide) (by decide)
      · rw [c15, c16]; exact ha
      · rw [c15, c16]
        have e3 : (zup t 2 2 (n : Int)) 2 3 = σ 2 3 := by
          show t 2 3 = _
          rw [hf 2 (by decide)]
        rw [e3] at a2
        exact a2
    · intro h2
      refine ⟨by (first | exact ⟨by omega, by omega⟩ | (exfalso; omega)), ?_⟩
      refine ⟨by (first | exact ⟨by omega, by omega⟩ | (exfalso; omega)), ?_⟩
      refine ⟨by (first | exact ⟨by omega, by omega⟩ | (exfalso; omega)), ?_⟩
      refine ⟨by (first | exact ⟨by omega, by omega⟩ | (exfalso; omega)), ?_⟩
      refine ⟨by (first | exact ⟨by omega, by omega⟩ | (exfalso; omega)), ?_⟩
      refine ⟨by (first | exact ⟨by omega, by omega⟩ | (exfalso; omega)), ?_⟩
      refine ⟨by (first | exact ⟨by omega, by omega⟩ | (exfalso; omega)), ?_⟩
      refine ⟨by (first | exact ⟨by omega, by omega⟩ | (exfalso; omega)), ?_⟩
      refine ⟨by (first | exact ⟨by omega, by omega⟩ | (exfalso; omega)), ?_⟩
      refine ⟨by (first | exact ⟨by omega, by omega⟩ | (exfalso; omega)), ?_⟩
      exfalso; omega
  | succ m ih =>
    intro k t hk hf ha
    have b65 : t 65 = σ 65 := hf 65 (by decide)
    have ec : ((k + 1 : Nat) : Int) = (k : Int) + 1 := by omega
    refine zwalk zmk_14 [(3, [true, true, true, true, true])] 3 ?_
    show (((n : Int) ≤ (k : Int) → (∃ Rc : Int → zS → Prop, zAM 15 [.inr (.inr (2, 0))] (zup t 2 (2 : Int) (n : Int)) Rc ∧ ∀ (u1 : zS), Rc 0 u1 → (zfr [2, 15, 16, 17, 18, 19, 20, 21] σ u1 ∧ (∀ j : Int, ¬ j = 2 → ¬ j = 7 → ¬ j = 10 → ¬ j = 11 → u1 2 j = σ 2 j) ∧ u1 2 2 = (n : Int) ∧ (∀ j : Int, 0 ≤ j → j < (n : Int) → u1 15 j = zrX σ (80 * s) i j ∧ u1 16 j = zrS σ (80 * s) i j) ∧ zLC (u1 15) (u1 16) (σ 2 3) n u1))) ∧ ((k : Int) < (n : Int) → (zI ((2 : Int) * (k : Int)) ∧ (zI (i + ((2 : Int) * (k : Int))) ∧ ((0 ≤ (i + ((2 : Int) * (k : Int))) ∧ (i + ((2 : Int) * (k : Int))) < 80) ∧ ((0 ≤ (k : Int) ∧ (k : Int) < (40 : Int)) ∧ (zI ((2 : Int) * (k : Int)) ∧ (zI (i + ((2 : Int) * (k : Int))) ∧ (zI ((i + ((2 : Int) * (k : Int))) + (1 : Int)) ∧ ((0 ≤ ((i + ((2 : Int) * (k : Int))) + (1 : Int)) ∧ ((i + ((2 : Int) * (k : Int))) + (1 : Int)) < 80) ∧ ((0 ≤ (k : Int) ∧ (k : Int) < (40 : Int)) ∧ (zI ((k : Int) + (1 : Int)) ∧ zRuns 14 zX0 (fun (v : Int) (u : zS) => zfr [2, 15, 16, 17, 18, 19, 20, 21] σ u ∧ (∀ j : Int, ¬ j = 2 → ¬ j = 7 → ¬ j = 10 → ¬ j = 11 → u 2 j = σ 2 j) ∧ u 2 2 = (n : Int) ∧ (∀ j : Int, 0 ≤ j → j < (n : Int) → u 15 j = zrX σ (80 * s) i j ∧ u 16 j = zrS σ (80 * s) i j) ∧ zLC (u 15) (u 16) (σ 2 3) n u) 3 [some (.inr (.inr (2, 0))), some (.inr (.inr (65, (80 * s)))), some (.inl i), some (.inl (n : Int)), some (.inl ((k : Int) + (1 : Int)))] [] (zup (zup t 15 (k : Int) (t 65 ((80 * s) + (i + ((2 : Int) * (k : Int)))))) 16 (k : Int) (t 65 ((80 * s) + ((i + ((2 : Int) * (k : Int))) + (1 : Int)))))))))))))))))
    refine ⟨fun q => absurd q (by omega), fun _ => ?_⟩
    rw [b65]
    refine ⟨by (first | exact ⟨by omega, by omega⟩ | (exfalso; omega)), ?_⟩
    refine ⟨by (first | exact ⟨by omega, by omega⟩ | (exfalso; omega)), ?_⟩
    refine ⟨by (first | exact ⟨by omega, by omega⟩ | (exfalso; omega)), ?_⟩
    refine ⟨by (first | exact ⟨by omega, by omega⟩ | (exfalso; omega)), ?_⟩
    refine ⟨by (first | exact ⟨by omega, by omega⟩ | (exfalso; omega)), ?_⟩
    refine ⟨by (first | exact ⟨by omega, by omega⟩ | (exfalso; omega)), ?_⟩
    refine ⟨by (first | exact ⟨by omega, by omega⟩ | (exfalso; omega)), ?_⟩
    refine ⟨by (first | exact ⟨by omega, by omega⟩ | (exfalso; omega)), ?_⟩
    refine ⟨by (first | exact ⟨by omega, by omega⟩ | (exfalso; omega)), ?_⟩
    refine ⟨by (first | exact ⟨by omega, by omega⟩ | (exfalso; omega)), ?_⟩
    rw [← ec]
    refine ih (k + 1) _ (by omega) ((hf.up (c := 15) (by decide)).up (c := 16) (by decide)) (fun j j0 j1 => ?_)
    show (if j = (k : Int) then _ else t 15 j) = _ ∧ (if j = (k : Int) then _ else t 16 j) = _
    by_cases e : j = (k : Int)
    · rw [if_pos e, if_pos e, e]; exact ⟨rfl, rfl⟩
    · rw [if_neg e, if_neg e]; exact ha j j0 (by omega)
set_option maxRecDepth 100000 in
set_option maxHeartbeats 4000000 in
theorem am_X2_write {σ : zS} {s : Int} {i : Int} {n : Nat} (hs : 0 ≤ s ∧ s < 8) (hi : 0 ≤ i ∧ i + 2 * (n : Int) ≤ 80) (hn40 : n ≤ 40) (hp : zPOs σ (80 * s) i n) : zAM 14 [.inr (.inr (2, 0)), .inr (.inr (65, (80 * s))), .inl i, .inl (n : Int)] σ (fun (v : Int) (u : zS) => zfr [2, 15, 16, 17, 18, 19, 20, 21] σ u ∧ (∀ j : Int, ¬ j = 2 → ¬ j = 7 → ¬ j = 10 → ¬ j = 11 → u 2 j = σ 2 j) ∧ u 2 2 = (n : Int) ∧ (∀ j : Int, 0 ≤ j → j < (n : Int) → u 15 j = zrX σ (80 * s) i j ∧ u 16 j = zrS σ (80 * s) i j) ∧ zLC (u 15) (u 16) (σ 2 3) n u) := by
  refine zam (by decide) (Nat.le_of_ble_eq_true rfl) ?_
  refine zwalk zmk_14 [(3, [true, true, true, true, true])] 2 ?_
  show zRuns 14 zX0 (fun (v : Int) (u : zS) => zfr [2, 15, 16, 17, 18, 19, 20, 21] σ u ∧ (∀ j : Int, ¬ j = 2 → ¬ j = 7 → ¬ j = 10 → ¬ j = 11 → u 2 j = σ 2 j) ∧ u 2 2 = (n : Int) ∧ (∀ j : Int, 0 ≤ j → j < (n : Int) → u 15 j = zrX σ (80 * s) i j ∧ u 16 j = zrS σ (80 * s) i j) ∧ zLC (u 15) (u 16) (σ 2 3) n u) 3 [some (.inr (.inr (2, 0))), some (.inr (.inr (65, (80 * s)))), some (.inl i), some (.inl (n : Int)), some (.inl (0 : Int))] [] σ
  exact lp_write hs hi hn40 hp n 0 σ (by omega) zfr.rf (fun j _ _ => by omega)
