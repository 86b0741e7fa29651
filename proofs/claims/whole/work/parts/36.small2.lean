set_option maxRecDepth 100000 in
set_option maxHeartbeats 4000000 in
theorem am_X8_ink {σ : zS} {k : Int} {w : Int} (hL : zLF σ) : zAM 56 [.inr (.inr (0, 0)), .inl k, .inl w] σ (fun (v : Int) (u : zS) => ((¬ (0 ≤ k ∧ k < σ 2 10) ∨ ¬ (0 ≤ w ∧ w ≤ 2)) ∧ σ = u ∧ -1000001 = v) ∨ (((0 ≤ k ∧ k < σ 2 10) ∧ w = 0) ∧ σ = u ∧ σ 20 (k + 1) - σ 20 k = v) ∨ (((0 ≤ k ∧ k < σ 2 10) ∧ w = 1) ∧ σ = u ∧ σ 20 k = v) ∨ (((0 ≤ k ∧ k < σ 2 10) ∧ w = 2) ∧ σ = u ∧ σ 21 k = v)) := by
  refine zam (by decide) (Nat.le_of_ble_eq_true rfl) ?_
  refine zwalk zmk_56 [] 4 ?_
  show (∃ Rc : Int → zS → Prop, zAM 79 [.inr (.inr (0, 0)), .inl k] σ Rc ∧ ∀ (v1 : Int) (u1 : zS), zI v1 → Rc v1 u1 → ((¬ v1 = 0 → (((w = (0 : Int) → (∃ Rc : Int → zS → Prop, zAM 21 [.inr (.inr (2, 0)), .inl k] u1 Rc ∧ ∀ (v2 : Int) (u2 : zS), zI v2 → Rc v2 u2 → (((¬ (0 ≤ k ∧ k < σ 2 10) ∨ ¬ (0 ≤ w ∧ w ≤ 2)) ∧ σ = u2 ∧ -1000001 = v2) ∨ (((0 ≤ k ∧ k < σ 2 10) ∧ w = 0) ∧ σ = u2 ∧ σ 20 (k + 1) - σ 20 k = v2) ∨ (((0 ≤ k ∧ k < σ 2 10) ∧ w = 1) ∧ σ = u2 ∧ σ 20 k = v2) ∨ (((0 ≤ k ∧ k < σ 2 10) ∧ w = 2) ∧ σ = u2 ∧ σ 21 k = v2)))) ∧ ((w = (1 : Int) → ((0 ≤ k ∧ k < (41 : Int)) ∧ (((¬ (0 ≤ k ∧ k < σ 2 10) ∨ ¬ (0 ≤ w ∧ w ≤ 2)) ∧ σ = u1 ∧ -1000001 = (u1 20 k)) ∨ (((0 ≤ k ∧ k < σ 2 10) ∧ w = 0) ∧ σ = u1 ∧ σ 20 (k + 1) - σ 20 k = (u1 20 k)) ∨ (((0 ≤ k ∧ k < σ 2 10) ∧ w = 1) ∧ σ = u1 ∧ σ 20 k = (u1 20 k)) ∨ (((0 ≤ k ∧ k < σ 2 10) ∧ w = 2) ∧ σ = u1 ∧ σ 21 k = (u1 20 k))))) ∧ ((w = (2 : Int) → ((0 ≤ k ∧ k < (40 : Int)) ∧ (((¬ (0 ≤ k ∧ k < σ 2 10) ∨ ¬ (0 ≤ w ∧ w ≤ 2)) ∧ σ = u1 ∧ -1000001 = (u1 21 k)) ∨ (((0 ≤ k ∧ k < σ 2 10) ∧ w = 0) ∧ σ = u1 ∧ σ 20 (k + 1) - σ 20 k = (u1 21 k)) ∨ (((0 ≤ k ∧ k < σ 2 10) ∧ w = 1) ∧ σ = u1 ∧ σ 20 k = (u1 21 k)) ∨ (((0 ≤ k ∧ k < σ 2 10) ∧ w = 2) ∧ σ = u1 ∧ σ 21 k = (u1 21 k))))) ∧ True))) ∧ ((w < (0 : Int) ∨ (2 : Int) < w) → (((¬ (0 ≤ k ∧ k < σ 2 10) ∨ ¬ (0 ≤ w ∧ w ≤ 2)) ∧ σ = u1 ∧ -1000001 = (-1000001 : Int)) ∨ (((0 ≤ k ∧ k < σ 2 10) ∧ w = 0) ∧ σ = u1 ∧ σ 20 (k + 1) - σ 20 k = (-1000001 : Int)) ∨ (((0 ≤ k ∧ k < σ 2 10) ∧ w = 1) ∧ σ = u1 ∧ σ 20 k = (-1000001 : Int)) ∨ (((0 ≤ k ∧ k < σ 2 10) ∧ w = 2) ∧ σ = u1 ∧ σ 21 k = (-1000001 : Int)))))) ∧ (v1 = 0 → (((¬ (0 ≤ k ∧ k < σ 2 10) ∨ ¬ (0 ≤ w ∧ w ≤ 2)) ∧ σ = u1 ∧ -1000001 = (-1000001 : Int)) ∨ (((0 ≤ k ∧ k < σ 2 10) ∧ w = 0) ∧ σ = u1 ∧ σ 20 (k + 1) - σ 20 k = (-1000001 : Int)) ∨ (((0 ≤ k ∧ k < σ 2 10) ∧ w = 1) ∧ σ = u1 ∧ σ 20 k = (-1000001 : Int)) ∨ (((0 ≤ k ∧ k < σ 2 10) ∧ w = 2) ∧ σ = u1 ∧ σ 21 k = (-1000001 : Int))))))
  have c0 := hL.2.2.1 k
  have c1 := hL.1
  have c2 := hL.2.1
  refine ⟨_, am_X8_isInk, ?_⟩
  intro v1 u1 hv1
  rintro ⟨rfl, (⟨rfl, cv1⟩ | ⟨rfl, cv1⟩)⟩
  · refine ⟨?_, ?_⟩
    · intro _
      refine ⟨?_, ?_⟩
      · refine ⟨?_, ?_⟩
        · intro h2
          refine ⟨_, am_X2_piecesOf (by omega) (by omega) (by omega), ?_⟩
          intro v2 u2 hv2
          rintro ⟨rfl, rfl⟩
          obtain ⟨hv2a, hv2b⟩ := hv2
          first | exact (Or.inl ⟨by omega, rfl, rfl⟩) | exact (Or.inr (Or.inl ⟨by omega, rfl, rfl⟩)) | exact (Or.inr (Or.inr (Or.inl ⟨by omega, rfl, rfl⟩))) | exact (Or.inr (Or.inr (Or.inr ⟨by omega, rfl, rfl⟩)))
        · refine ⟨?_, ?_⟩
          · intro h3
            refine ⟨by (first | omega | exact ⟨by omega, by omega⟩ | exact ⟨by omega, by omega, by omega⟩ | exact ⟨by omega, by omega, by omega, by omega, by omega⟩), ?_⟩
            first | exact (Or.inl ⟨by omega, rfl, rfl⟩) | exact (Or.inr (Or.inl ⟨by omega, rfl, rfl⟩)) | exact (Or.inr (Or.inr (Or.inl ⟨by omega, rfl, rfl⟩))) | exact (Or.inr (Or.inr (Or.inr ⟨by omega, rfl, rfl⟩)))
          · refine ⟨?_, ?_⟩
            · intro h4
              refine ⟨by (first | omega | exact ⟨by omega, by omega⟩ | exact ⟨by omega, by omega, by omega⟩ | exact ⟨by omega, by omega, by omega, by omega, by omega⟩), ?_⟩
              first | exact (Or.inl ⟨by omega, rfl, rfl⟩) | exact (Or.inr (Or.inl ⟨by omega, rfl, rfl⟩)) | exact (Or.inr (Or.inr (Or.inl ⟨by omega, rfl, rfl⟩))) | exact (Or.inr (Or.inr (Or.inr ⟨by omega, rfl, rfl⟩)))
            · trivial
      · intro h5
        first | exact (Or.inl ⟨by omega, rfl, rfl⟩) | exact (Or.inr (Or.inl ⟨by omega, rfl, rfl⟩)) | exact (Or.inr (Or.inr (Or.inl ⟨by omega, rfl, rfl⟩))) | exact (Or.inr (Or.inr (Or.inr ⟨by omega, rfl, rfl⟩)))
    · exact fun h => absurd h (by decide)
  · refine ⟨?_, ?_⟩
    · exact fun h => absurd h (by decide)
    · intro _
      first | exact (Or.inl ⟨by omega, rfl, rfl⟩) | exact (Or.inr (Or.inl ⟨by omega, rfl, rfl⟩)) | exact (Or.inr (Or.inr (Or.inl ⟨by omega, rfl, rfl⟩))) | exact (Or.inr (Or.inr (Or.inr ⟨by omega, rfl, rfl⟩)))
set_option maxRecDepth 100000 in
set_option maxHeartbeats 4000000 in
theorem am_X8_piece {σ : zS} {k : Int} {q : Int} {w : Int} (hL : zLF σ) : zAM 57 [.inr (.inr (0, 0)), .inl k, .inl q, .inl w] σ (fun (v : Int) (u : zS) => ((¬ ((0 ≤ k ∧ k < σ 2 10) ∧ 0 ≤ q ∧ q < σ 20 (k + 1) - σ 20 k) ∨ ¬ (0 ≤ w ∧ w ≤ 2)) ∧ σ = u ∧ -1000001 = v) ∨ ((((0 ≤ k ∧ k < σ 2 10) ∧ 0 ≤ q ∧ q < σ 20 (k + 1) - σ 20 k) ∧ w = 0) ∧ σ = u ∧ σ 17 (σ 20 k + q) = v) ∨ ((((0 ≤ k ∧ k < σ 2 10) ∧ 0 ≤ q ∧ q < σ 20 (k + 1) - σ 20 k) ∧ w = 1) ∧ σ = u ∧ σ 18 (σ 20 k + q) = v) ∨ ((((0 ≤ k ∧ k < σ 2 10) ∧ 0 ≤ q ∧ q < σ 20 (k + 1) - σ 20 k) ∧ w = 2) ∧ σ = u ∧ σ 19 (σ 20 k + q) = v)) := by
  refine zam (by decide) (Nat.le_of_ble_eq_true rfl) ?_
  refine zwalk zmk_57 [] 4 ?_
  show (∃ Rc : Int → zS → Prop, zAM 79 [.inr (.inr (0, 0)), .inl k] σ Rc ∧ ∀ (v1 : Int) (u1 : zS), zI v1 → Rc v1 u1 → ((v1 = 0 → (((¬ ((0 ≤ k ∧ k < σ 2 10) ∧ 0 ≤ q ∧ q < σ 20 (k + 1) - σ 20 k) ∨ ¬ (0 ≤ w ∧ w ≤ 2)) ∧ σ = u1 ∧ -1000001 = (-1000001 : Int)) ∨ ((((0 ≤ k ∧ k < σ 2 10) ∧ 0 ≤ q ∧ q < σ 20 (k + 1) - σ 20 k) ∧ w = 0) ∧ σ = u1 ∧ σ 17 (σ 20 k + q) = (-1000001 : Int)) ∨ ((((0 ≤ k ∧ k < σ 2 10) ∧ 0 ≤ q ∧ q < σ 20 (k + 1) - σ 20 k) ∧ w = 1) ∧ σ = u1 ∧ σ 18 (σ 20 k + q) = (-1000001 : Int)) ∨ ((((0 ≤ k ∧ k < σ 2 10) ∧ 0 ≤ q ∧ q < σ 20 (k + 1) - σ 20 k) ∧ w = 2) ∧ σ = u1 ∧ σ 19 (σ 20 k + q) = (-1000001 : Int)))) ∧ (¬ v1 = 0 → ((q < 0 → (((¬ ((0 ≤ k ∧ k < σ 2 10) ∧ 0 ≤ q ∧ q < σ 20 (k + 1) - σ 20 k) ∨ ¬ (0 ≤ w ∧ w ≤ 2)) ∧ σ = u1 ∧ -1000001 = (-1000001 : Int)) ∨ ((((0 ≤ k ∧ k < σ 2 10) ∧ 0 ≤ q ∧ q < σ 20 (k + 1) - σ 20 k) ∧ w = 0) ∧ σ = u1 ∧ σ 17 (σ 20 k + q) = (-1000001 : Int)) ∨ ((((0 ≤ k ∧ k < σ 2 10) ∧ 0 ≤ q ∧ q < σ 20 (k + 1) - σ 20 k) ∧ w = 1) ∧ σ = u1 ∧ σ 18 (σ 20 k + q) = (-1000001 : Int)) ∨ ((((0 ≤ k ∧ k < σ 2 10) ∧ 0 ≤ q ∧ q < σ 20 (k + 1) - σ 20 k) ∧ w = 2) ∧ σ = u1 ∧ σ 19 (σ 20 k + q) = (-1000001 : Int)))) ∧ (0 ≤ q → (∃ Rc : Int → zS → Prop, zAM 21 [.inr (.inr (2, 0)), .inl k] u1 Rc ∧ ∀ (v2 : Int) (u2 : zS), zI v2 → Rc v2 u2 → ((q < v2 → ((0 ≤ k ∧ k < (41 : Int)) ∧ (zI ((u2 20 k) + q) ∧ (((w = (0 : Int) → ((0 ≤ ((u2 20 k) + q) ∧ ((u2 20 k) + q) < (40 : Int)) ∧ (((¬ ((0 ≤ k ∧ k < σ 2 10) ∧ 0 ≤ q ∧ q < σ 20 (k + 1) - σ 20 k) ∨ ¬ (0 ≤ w ∧ w ≤ 2)) ∧ σ = u2 ∧ -1000001 = (u2 17 ((u2 20 k) + q))) ∨ ((((0 ≤ k ∧ k < σ 2 10) ∧ 0 ≤ q ∧ q < σ 20 (k + 1) - σ 20 k) ∧ w = 0) ∧ σ = u2 ∧ σ 17 (σ 20 k + q) = (u2 17 ((u2 20 k) + q))) ∨ ((((0 ≤ k ∧ k < σ 2 10) ∧ 0 ≤ q ∧ q < σ 20 (k + 1) - σ 20 k) ∧ w = 1) ∧ σ = u2 ∧ σ 18 (σ 20 k + q) = (u2 17 ((u2 20 k) + q))) ∨ ((((0 ≤ k ∧ k < σ 2 10) ∧ 0 ≤ q ∧ q < σ 20 (k + 1) - σ 20 k) ∧ w = 2) ∧ σ = u2 ∧ σ 19 (σ 20 k + q) = (u2 17 ((u2 20 k) + q)))))) ∧ ((w = (1 : Int) → ((0 ≤ ((u2 20 k) + q) ∧ ((u2 20 k) + q) < (40 : Int)) ∧ (((¬ ((0 ≤ k ∧ k < σ 2 10) ∧ 0 ≤ q ∧ q < σ 20 (k + 1) - σ 20 k) ∨ ¬ (0 ≤ w ∧ w ≤ 2)) ∧ σ = u2 ∧ -1000001 = (u2 18 ((u2 20 k) + q))) ∨ ((((0 ≤ k ∧ k < σ 2 10) ∧ 0 ≤ q ∧ q < σ 20 (k + 1) - σ 20 k) ∧ w = 0) ∧ σ = u2 ∧ σ 17 (σ 20 k + q) = (u2 18 ((u2 20 k) + q))) ∨ ((((0 ≤ k ∧ k < σ 2 10) ∧ 0 ≤ q ∧ q < σ 20 (k + 1) - σ 20 k) ∧ w = 1) ∧ σ = u2 ∧ σ 18 (σ 20 k + q) = (u2 18 ((u2 20 k) + q))) ∨ ((((0 ≤ k ∧ k < σ 2 10) ∧ 0 ≤ q ∧ q < σ 20 (k + 1) - σ 20 k) ∧ w = 2) ∧ σ = u2 ∧ σ 19 (σ 20 k + q) = (u2 18 ((u2 20 k) + q)))))) ∧ ((w = (2 : Int) → ((0 ≤ ((u2 20 k) + q) ∧ ((u2 20 k) + q) < (40 : Int)) ∧ (((¬ ((0 ≤ k ∧ k < σ 2 10) ∧ 0 ≤ q ∧ q < σ 20 (k + 1) - σ 20 k) ∨ ¬ (0 ≤ w ∧ w ≤ 2)) ∧ σ = u2 ∧ -1000001 = (u2 19 ((u2 20 k) + q))) ∨ ((((0 ≤ k ∧ k < σ 2 10) ∧ 0 ≤ q ∧ q < σ 20 (k + 1) - σ 20 k) ∧ w = 0) ∧ σ = u2 ∧ σ 17 (σ 20 k + q) = (u2 19 ((u2 20 k) + q))) ∨ ((((0 ≤ k ∧ k < σ 2 10) ∧ 0 ≤ q ∧ q < σ 20 (k + 1) - σ 20 k) ∧ w = 1) ∧ σ = u2 ∧ σ 18 (σ 20 k + q) = (u2 19 ((u2 20 k) + q))) ∨ ((((0 ≤ k ∧ k < σ 2 10) ∧ 0 ≤ q ∧ q < σ 20 (k + 1) - σ 20 k) ∧ w = 2) ∧ σ = u2 ∧ σ 19 (σ 20 k + q) = (u2 19 ((u2 20 k) + q)))))) ∧ True))) ∧ ((w < (0 : Int) ∨ (2 : Int) < w) → (((¬ ((0 ≤ k ∧ k < σ 2 10) ∧ 0 ≤ q ∧ q < σ 20 (k + 1) - σ 20 k) ∨ ¬ (0 ≤ w ∧ w ≤ 2)) ∧ σ = u2 ∧ -1000001 = (-1000001 : Int)) ∨ ((((0 ≤ k ∧ k < σ 2 10) ∧ 0 ≤ q ∧ q < σ 20 (k + 1) - σ 20 k) ∧ w = 0) ∧ σ = u2 ∧ σ 17 (σ 20 k + q) = (-1000001 : Int)) ∨ ((((0 ≤ k ∧ k < σ 2 10) ∧ 0 ≤ q ∧ q < σ 20 (k + 1) - σ 20 k) ∧ w = 1) ∧ σ = u2 ∧ σ 18 (σ 20 k + q) = (-1000001 : Int)) ∨ ((((0 ≤ k ∧ k < σ 2 10) ∧ 0 ≤ q ∧ q < σ 20 (k + 1) - σ 20 k) ∧ w = 2) ∧ σ = u2 ∧ σ 19 (σ 20 k + q) = (-1000001 : Int)))))))) ∧ (v2 ≤ q → (((¬ ((0 ≤ k ∧ k < σ 2 10) ∧ 0 ≤ q ∧ q < σ 20 (k + 1) - σ 20 k) ∨ ¬ (0 ≤ w ∧ w ≤ 2)) ∧ σ = u2 ∧ -1000001 = (-1000001 : Int)) ∨ ((((0 ≤ k ∧ k < σ 2 10) ∧ 0 ≤ q ∧ q < σ 20 (k + 1) - σ 20 k) ∧ w = 0) ∧ σ = u2 ∧ σ 17 (σ 20 k + q) = (-1000001 : Int)) ∨ ((((0 ≤ k ∧ k < σ 2 10) ∧ 0 ≤ q ∧ q < σ 20 (k + 1) - σ 20 k) ∧ w = 1) ∧ σ = u2 ∧ σ 18 (σ 20 k + q) = (-1000001 : Int)) ∨ ((((0 ≤ k ∧ k < σ 2 10) ∧ 0 ≤ q ∧ q < σ 20 (k + 1) - σ 20 k) ∧ w = 2) ∧ σ = u2 ∧ σ 19 (σ 20 k + q) = (-1000001 : Int)))))))))))
  have c0 := hL.2.2.1 k
  have c1 := hL.1
  have c2 := hL.2.1
  refine ⟨_, am_X8_isInk, ?_⟩
  intro v1 u1 hv1
  rintro ⟨rfl, (⟨rfl, cv1⟩ | ⟨rfl, cv1⟩)⟩
  · refine ⟨?_, ?_⟩
    · exact fun h => absurd h (by decide)
    · intro _
      refine ⟨?_, ?_⟩
      · intro h2
        first | exact (Or.inl ⟨by omega, rfl, rfl⟩) | exact (Or.inr (Or.inl ⟨by omega, rfl, rfl⟩)) | exact (Or.inr (Or.inr (Or.inl ⟨by omega, rfl, rfl⟩))) | exact (Or.inr (Or.inr (Or.inr ⟨by omega, rfl, rfl⟩)))
      · intro h3
        refine ⟨_, am_X2_piecesOf (by omega) (by omega) (by omega), ?_⟩
        intro v2 u2 hv2
        rintro ⟨rfl, rfl⟩
        obtain ⟨hv2a, hv2b⟩ := hv2
        refine ⟨?_, ?_⟩
        · intro h4
          refine ⟨by (first | omega | exact ⟨by omega, by omega⟩ | exact ⟨by omega, by omega, by omega⟩ | exact ⟨by omega, by omega, by omega, by omega, by omega⟩), ?_⟩
          refine ⟨by (exact ⟨by omega, by omega⟩), ?_⟩
          refine ⟨?_, ?_⟩
          · refine ⟨?_, ?_⟩
            · intro h5
              refine ⟨by (first | omega | exact ⟨by omega, by omega⟩ | exact ⟨by omega, by omega, by omega⟩ | exact ⟨by omega, by omega, by omega, by omega, by omega⟩), ?_⟩
              first | exact (Or.inl ⟨by omega, rfl, rfl⟩) | exact (Or.inr (Or.inl ⟨by omega, rfl, rfl⟩)) | exact (Or.inr (Or.inr (Or.inl ⟨by omega, rfl, rfl⟩))) | exact (Or.inr (Or.inr (Or.inr ⟨by omega, rfl, rfl⟩)))
            · refine ⟨?_, ?_⟩
              · intro h6
                refine ⟨by (first | omega | exact ⟨by omega, by omega⟩ | exact ⟨by omega, by omega, by omega⟩ | exact ⟨by omega, by omega, by omega, by omega, by omega⟩), ?_⟩
                first | exact (Or.inl ⟨by omega, rfl, rfl⟩) | exact (Or.inr (Or.inl ⟨by omega, rfl, rfl⟩)) | exact (Or.inr (Or.inr (Or.inl ⟨by omega, rfl, rfl⟩))) | exact (Or.inr (Or.inr (Or.inr ⟨by omega, rfl, rfl⟩)))
              · refine ⟨?_, ?_⟩
                · intro h7
                  refine ⟨by (first | omega | exact ⟨by omega, by omega⟩ | exact ⟨by omega, by omega, by omega⟩ | exact ⟨by omega, by omega, by omega, by omega, by omega⟩), ?_⟩
                  first | exact (Or.inl ⟨by omega, rfl, rfl⟩) | exact (Or.inr (Or.inl ⟨by omega, rfl, rfl⟩)) | exact (Or.inr (Or.inr (Or.inl ⟨by omega, rfl, rfl⟩))) | exact (Or.inr (Or.inr (Or.inr ⟨by omega, rfl, rfl⟩)))
                · trivial
          · intro h8
            first | exact (Or.inl ⟨by omega, rfl, rfl⟩) | exact (Or.inr (Or.inl ⟨by omega, rfl, rfl⟩)) | exact (Or.inr (Or.inr (Or.inl ⟨by omega, rfl, rfl⟩))) | exact (Or.inr (Or.inr (Or.inr ⟨by omega, rfl, rfl⟩)))
        · intro h9
          first | exact (Or.inl ⟨by omega, rfl, rfl⟩) | exact (Or.inr (Or.inl ⟨by omega, rfl, rfl⟩)) | exact (Or.inr (Or.inr (Or.inl ⟨by omega, rfl, rfl⟩))) | exact (Or.inr (Or.inr (Or.inr ⟨by omega, rfl, rfl⟩)))
  · refine ⟨?_, ?_⟩
    · intro _
      first | exact (Or.inl ⟨by omega, rfl, rfl⟩) | exact (Or.inr (Or.inl ⟨by omega, rfl, rfl⟩)) | exact (Or.inr (Or.inr (Or.inl ⟨by omega, rfl, rfl⟩))) | exact (Or.inr (Or.inr (Or.inr ⟨by omega, rfl, rfl⟩)))
    · exact fun h => absurd h (by decide)
set_option maxRecDepth 100000 in
set_option maxHeartbeats 4000000 in
theorem am_X9_ink {σ : zS} {k : Int} {w : Int} {m : Int} (hm : zMQ σ m (σ 9 13)) : zAM 118 [.inr (.inr (9, 0)), .inl k, .inl w] σ (fun (v : Int) (u : zS) => ((¬ (0 ≤ k ∧ k < σ 9 13) ∨ ¬ (0 ≤ w ∧ w ≤ 2)) ∧ σ = u ∧ -1000001 = v) ∨ (((0 ≤ k ∧ k < σ 9 13) ∧ w = 0) ∧ σ = u ∧ σ 45 (k + 1) - σ 45 k = v) ∨ (((0 ≤ k ∧ k < σ 9 13) ∧ w = 1) ∧ σ = u ∧ σ 45 k = v) ∨ (((0 ≤ k ∧ k < σ 9 13) ∧ w = 2) ∧ σ = u ∧ σ 46 k = v)) := by
  refine zam (by decide) (Nat.le_of_ble_eq_true rfl) ?_
  refine zwalk zmk_118 [] 5 ?_
  show (∃ Rc : Int → zS → Prop, zAM 116 [.inr (.inr (9, 0)), .inl k] σ Rc ∧ ∀ (v1 : Int) (u1 : zS), zI v1 → Rc v1 u1 → ((v1 = 0 → (((¬ (0 ≤ k ∧ k < σ 9 13) ∨ ¬ (0 ≤ w ∧ w ≤ 2)) ∧ σ = u1 ∧ -1000001 = (-1000001 : Int)) ∨ (((0 ≤ k ∧ k < σ 9 13) ∧ w = 0) ∧ σ = u1 ∧ σ 45 (k + 1) - σ 45 k = (-1000001 : Int)) ∨ (((0 ≤ k ∧ k < σ 9 13) ∧ w = 1) ∧ σ = u1 ∧ σ 45 k = (-1000001 : Int)) ∨ (((0 ≤ k ∧ k < σ 9 13) ∧ w = 2) ∧ σ = u1 ∧ σ 46 k = (-1000001 : Int)))) ∧ (¬ v1 = 0 → (∃ Rc : Int → zS → Prop, zAM 103 [.inr (.inl w), .inr (.inl (0 : Int)), .inr (.inl (2 : Int))] u1 Rc ∧ ∀ (v2 : Int) (u2 : zS), zI v2 → Rc v2 u2 → ((¬ v2 = 0 → ((¬ w = 0 → ((¬ w = (1 : Int) → ((0 ≤ k ∧ k < (40 : Int)) ∧ (((¬ (0 ≤ k ∧ k < σ 9 13) ∨ ¬ (0 ≤ w ∧ w ≤ 2)) ∧ σ = u2 ∧ -1000001 = (u2 46 k)) ∨ (((0 ≤ k ∧ k < σ 9 13) ∧ w = 0) ∧ σ = u2 ∧ σ 45 (k + 1) - σ 45 k = (u2 46 k)) ∨ (((0 ≤ k ∧ k < σ 9 13) ∧ w = 1) ∧ σ = u2 ∧ σ 45 k = (u2 46 k)) ∨ (((0 ≤ k ∧ k < σ 9 13) ∧ w = 2) ∧ σ = u2 ∧ σ 46 k = (u2 46 k))))) ∧ (w = (1 : Int) → ((0 ≤ k ∧ k < (41 : Int)) ∧ (((¬ (0 ≤ k ∧ k < σ 9 13) ∨ ¬ (0 ≤ w ∧ w ≤ 2)) ∧ σ = u2 ∧ -1000001 = (u2 45 k)) ∨ (((0 ≤ k ∧ k < σ 9 13) ∧ w = 0) ∧ σ = u2 ∧ σ 45 (k + 1) - σ 45 k = (u2 45 k)) ∨ (((0 ≤ k ∧ k < σ 9 13) ∧ w = 1) ∧ σ = u2 ∧ σ 45 k = (u2 45 k)) ∨ (((0 ≤ k ∧ k < σ 9 13) ∧ w = 2) ∧ σ = u2 ∧ σ 46 k = (u2 45 k))))))) ∧ (w = 0 → (∃ Rc : Int → zS → Prop, zAM 117 [.inr (.inr (9, 0)), .inl k] u2 Rc ∧ ∀ (v3 : Int) (u3 : zS), zI v3 → Rc v3 u3 → (((¬ (0 ≤ k ∧ k < σ 9 13) ∨ ¬ (0 ≤ w ∧ w ≤ 2)) ∧ σ = u3 ∧ -1000001 = v3) ∨ (((0 ≤ k ∧ k < σ 9 13) ∧ w = 0) ∧ σ = u3 ∧ σ 45 (k + 1) - σ 45 k = v3) ∨ (((0 ≤ k ∧ k < σ 9 13) ∧ w = 1) ∧ σ = u3 ∧ σ 45 k = v3) ∨ (((0 ≤ k ∧ k < σ 9 13) ∧ w = 2) ∧ σ = u3 ∧ σ 46 k = v3)))))) ∧ (v2 = 0 → (((¬ (0 ≤ k ∧ k < σ 9 13) ∨ ¬ (0 ≤ w ∧ w ≤ 2)) ∧ σ = u2 ∧ -1000001 = (-1000001 : Int)) ∨ (((0 ≤ k ∧ k < σ 9 13) ∧ w = 0) ∧ σ = u2 ∧ σ 45 (k + 1) - σ 45 k = (-1000001 : Int)) ∨ (((0 ≤ k ∧ k < σ 9 13) ∧ w = 1) ∧ σ = u2 ∧ σ 45 k = (-1000001 : Int)) ∨ (((0 ≤ k ∧ k < σ 9 13) ∧ w = 2) ∧ σ = u2 ∧ σ 46 k = (-1000001 : Int)))))))))
  have c0 := hm.2.1 k
  have c1 := hm.1
  refine ⟨_, am_X9_isInk (by omega), ?_⟩
  intro v1 u1 hv1
  rintro ⟨rfl, (⟨rfl, cv1⟩ | ⟨rfl, cv1⟩)⟩
  · refine ⟨?_, ?_⟩
    · exact fun h => absurd h (by decide)
    · intro _
      refine ⟨_, am_X9_in, ?_⟩
      intro v2 u2 hv2
      rintro ⟨rfl, (⟨rfl, cv2⟩ | ⟨rfl, cv2⟩)⟩
      · refine ⟨?_, ?_⟩
        · intro _
          refine ⟨?_, ?_⟩
          · intro h3
            refine ⟨?_, ?_⟩
            · intro h4
              refine ⟨by (first | omega | exact ⟨by omega, by omega⟩ | exact ⟨by omega, by omega, by omega⟩ | exact ⟨by omega, by omega, by omega, by omega, by omega⟩), ?_⟩
              first | exact (Or.inl ⟨by omega, rfl, rfl⟩) | exact (Or.inr (Or.inl ⟨by omega, rfl, rfl⟩)) | exact (Or.inr (Or.inr (Or.inl ⟨by omega, rfl, rfl⟩))) | exact (Or.inr (Or.inr (Or.inr ⟨by omega, rfl, rfl⟩)))
            · intro h5
              refine ⟨by (first | omega | exact ⟨by omega, by omega⟩ | exact ⟨by omega, by omega, by omega⟩ | exact ⟨by omega, by omega, by omega, by omega, by omega⟩), ?_⟩
              first | exact (Or.inl ⟨by omega, rfl, rfl⟩) | exact (Or.inr (Or.inl ⟨by omega, rfl, rfl⟩)) | exact (Or.inr (Or.inr (Or.inl ⟨by omega, rfl, rfl⟩))) | exact (Or.inr (Or.inr (Or.inr ⟨by omega, rfl, rfl⟩)))
          · intro h6
            refine ⟨_, am_X9_many (by omega) (by omega) (by omega), ?_⟩
            intro v3 u3 hv3
            rintro ⟨rfl, rfl⟩
            obtain ⟨hv3a, hv3b⟩ := hv3
            first | exact (Or.inl ⟨by omega, rfl, rfl⟩) | exact (Or.inr (Or.inl ⟨by omega, rfl, rfl⟩)) | exact (Or.inr (Or.inr (Or.inl ⟨by omega, rfl, rfl⟩))) | exact (Or.inr (Or.inr (Or.inr ⟨by omega, rfl, rfl⟩)))
        · exact fun h => absurd h (by decide)
      · refine ⟨?_, ?_⟩
        · exact fun h => absurd h (by decide)
        · intro _
          first | exact (Or.inl ⟨by omega, rfl, rfl⟩) | exact (Or.inr (Or.inl ⟨by omega, rfl, rfl⟩)) | exact (Or.inr (Or.inr (Or.inl ⟨by omega, rfl, rfl⟩))) | exact (Or.inr (Or.inr (Or.inr ⟨by omega, rfl, rfl⟩)))
  · refine ⟨?_, ?_⟩
    · intro _
      first | exact (Or.inl ⟨by omega, rfl, rfl⟩) | exact (Or.inr (Or.inl ⟨by omega, rfl, rfl⟩)) | exact (Or.inr (Or.inr (Or.inl ⟨by omega, rfl, rfl⟩))) | exact (Or.inr (Or.inr (Or.inr ⟨by omega, rfl, rfl⟩)))
    · exact fun h => absurd h (by decide)
set_option maxRecDepth 100000 in
set_option maxHeartbeats 4000000 in
theorem am_X9_piece {σ : zS} {k : Int} {q : Int} {w : Int} {m : Int} (hm : zMQ σ m (σ 9 13)) : zAM 119 [.inr (.inr (9, 0)), .inl k, .inl q, .inl w] σ (fun (v : Int) (u : zS) => ((¬ ((0 ≤ k ∧ k < σ 9 13) ∧ 0 ≤ q ∧ q < σ 45 (k + 1) - σ 45 k) ∨ ¬ (0 ≤ w ∧ w ≤ 2)) ∧ σ = u ∧ -1000001 = v) ∨ ((((0 ≤ k ∧ k < σ 9 13) ∧ 0 ≤ q ∧ q < σ 45 (k + 1) - σ 45 k) ∧ w = 0) ∧ σ = u ∧ σ 41 (σ 45 k + q) = v) ∨ ((((0 ≤ k ∧ k < σ 9 13) ∧ 0 ≤ q ∧ q < σ 45 (k + 1) - σ 45 k) ∧ w = 1) ∧ σ = u ∧ σ 42 (σ 45 k + q) = v) ∨ ((((0 ≤ k ∧ k < σ 9 13) ∧ 0 ≤ q ∧ q < σ 45 (k + 1) - σ 45 k) ∧ w = 2) ∧ σ = u ∧ σ 43 (σ 45 k + q) = v)) := by
  refine zam (by decide) (Nat.le_of_ble_eq_true rfl) ?_
  refine zwalk zmk_119 [] 5 ?_
  show (∃ Rc : Int → zS → Prop, zAM 116 [.inr (.inr (9, 0)), .inl k] σ Rc ∧ ∀ (v1 : Int) (u1 : zS), zI v1 → Rc v1 u1 → ((v1 = 0 → (((¬ ((0 ≤ k ∧ k < σ 9 13) ∧ 0 ≤ q ∧ q < σ 45 (k + 1) - σ 45 k) ∨ ¬ (0 ≤ w ∧ w ≤ 2)) ∧ σ = u1 ∧ -1000001 = (-1000001 : Int)) ∨ ((((0 ≤ k ∧ k < σ 9 13) ∧ 0 ≤ q ∧ q < σ 45 (k + 1) - σ 45 k) ∧ w = 0) ∧ σ = u1 ∧ σ 41 (σ 45 k + q) = (-1000001 : Int)) ∨ ((((0 ≤ k ∧ k < σ 9 13) ∧ 0 ≤ q ∧ q < σ 45 (k + 1) - σ 45 k) ∧ w = 1) ∧ σ = u1 ∧ σ 42 (σ 45 k + q) = (-1000001 : Int)) ∨ ((((0 ≤ k ∧ k < σ 9 13) ∧ 0 ≤ q ∧ q < σ 45 (k + 1) - σ 45 k) ∧ w = 2) ∧ σ = u1 ∧ σ 43 (σ 45 k + q) = (-1000001 : Int)))) ∧ (¬ v1 = 0 → (∃ Rc : Int → zS → Prop, zAM 117 [.inr (.inr (9, 0)), .inl k] u1 Rc ∧ ∀ (v2 : Int) (u2 : zS), zI v2 → Rc v2 u2 → (zI (v2 - (1 : Int)) ∧ (∃ Rc : Int → zS → Prop, zAM 103 [.inr (.inl q), .inr (.inl (0 : Int)), .inr (.inl (v2 - (1 : Int)))] u2 Rc ∧ ∀ (v3 : Int) (u3 : zS), zI v3 → Rc v3 u3 → ((v3 = 0 → (((¬ ((0 ≤ k ∧ k < σ 9 13) ∧ 0 ≤ q ∧ q < σ 45 (k + 1) - σ 45 k) ∨ ¬ (0 ≤ w ∧ w ≤ 2)) ∧ σ = u3 ∧ -1000001 = (-1000001 : Int)) ∨ ((((0 ≤ k ∧ k < σ 9 13) ∧ 0 ≤ q ∧ q < σ 45 (k + 1) - σ 45 k) ∧ w = 0) ∧ σ = u3 ∧ σ 41 (σ 45 k + q) = (-1000001 : Int)) ∨ ((((0 ≤ k ∧ k < σ 9 13) ∧ 0 ≤ q ∧ q < σ 45 (k + 1) - σ 45 k) ∧ w = 1) ∧ σ = u3 ∧ σ 42 (σ 45 k + q) = (-1000001 : Int)) ∨ ((((0 ≤ k ∧ k < σ 9 13) ∧ 0 ≤ q ∧ q < σ 45 (k + 1) - σ 45 k) ∧ w = 2) ∧ σ = u3 ∧ σ 43 (σ 45 k + q) = (-1000001 : Int)))) ∧ (¬ v3 = 0 → (∃ Rc : Int → zS → Prop, zAM 103 [.inr (.inl w), .inr (.inl (0 : Int)), .inr (.inl (2 : Int))] u3 Rc ∧ ∀ (v4 : Int) (u4 : zS), zI v4 → Rc v4 u4 → ((¬ v4 = 0 → ((0 ≤ k ∧ k < (41 : Int)) ∧ (zI ((u4 45 k) + q) ∧ ((¬ w = 0 → ((¬ w = (1 : Int) → ((0 ≤ ((u4 45 k) + q) ∧ ((u4 45 k) + q) < (40 : Int)) ∧ (((¬ ((0 ≤ k ∧ k < σ 9 13) ∧ 0 ≤ q ∧ q < σ 45 (k + 1) - σ 45 k) ∨ ¬ (0 ≤ w ∧ w ≤ 2)) ∧ σ = u4 ∧ -1000001 = (u4 43 ((u4 45 k) + q))) ∨ ((((0 ≤ k ∧ k < σ 9 13) ∧ 0 ≤ q ∧ q < σ 45 (k + 1) - σ 45 k) ∧ w = 0) ∧ σ = u4 ∧ σ 41 (σ 45 k + q) = (u4 43 ((u4 45 k) + q))) ∨ ((((0 ≤ k ∧ k < σ 9 13) ∧ 0 ≤ q ∧ q < σ 45 (k + 1) - σ 45 k) ∧ w = 1) ∧ σ = u4 ∧ σ 42 (σ 45 k + q) = (u4 43 ((u4 45 k) + q))) ∨ ((((0 ≤ k ∧ k < σ 9 13) ∧ 0 ≤ q ∧ q < σ 45 (k + 1) - σ 45 k) ∧ w = 2) ∧ σ = u4 ∧ σ 43 (σ 45 k + q) = (u4 43 ((u4 45 k) + q)))))) ∧ (w = (1 : Int) → ((0 ≤ ((u4 45 k) + q) ∧ ((u4 45 k) + q) < (40 : Int)) ∧ (((¬ ((0 ≤ k ∧ k < σ 9 13) ∧ 0 ≤ q ∧ q < σ 45 (k + 1) - σ 45 k) ∨ ¬ (0 ≤ w ∧ w ≤ 2)) ∧ σ = u4 ∧ -1000001 = (u4 42 ((u4 45 k) + q))) ∨ ((((0 ≤ k ∧ k < σ 9 13) ∧ 0 ≤ q ∧ q < σ 45 (k + 1) - σ 45 k) ∧ w = 0) ∧ σ = u4 ∧ σ 41 (σ 45 k + q) = (u4 42 ((u4 45 k) + q))) ∨ ((((0 ≤ k ∧ k < σ 9 13) ∧ 0 ≤ q ∧ q < σ 45 (k + 1) - σ 45 k) ∧ w = 1) ∧ σ = u4 ∧ σ 42 (σ 45 k + q) = (u4 42 ((u4 45 k) + q))) ∨ ((((0 ≤ k ∧ k < σ 9 13) ∧ 0 ≤ q ∧ q < σ 45 (k + 1) - σ 45 k) ∧ w = 2) ∧ σ = u4 ∧ σ 43 (σ 45 k + q) = (u4 42 ((u4 45 k) + q)))))))) ∧ (w = 0 → ((0 ≤ ((u4 45 k) + q) ∧ ((u4 45 k) + q) < (40 : Int)) ∧ (((¬ ((0 ≤ k ∧ k < σ 9 13) ∧ 0 ≤ q ∧ q < σ 45 (k + 1) - σ 45 k) ∨ ¬ (0 ≤ w ∧ w ≤ 2)) ∧ σ = u4 ∧ -1000001 = (u4 41 ((u4 45 k) + q))) ∨ ((((0 ≤ k ∧ k < σ 9 13) ∧ 0 ≤ q ∧ q < σ 45 (k + 1) - σ 45 k) ∧ w = 0) ∧ σ = u4 ∧ σ 41 (σ 45 k + q) = (u4 41 ((u4 45 k) + q))) ∨ ((((0 ≤ k ∧ k < σ 9 13) ∧ 0 ≤ q ∧ q < σ 45 (k + 1) - σ 45 k) ∧ w = 1) ∧ σ = u4 ∧ σ 42 (σ 45 k + q) = (u4 41 ((u4 45 k) + q))) ∨ ((((0 ≤ k ∧ k < σ 9 13) ∧ 0 ≤ q ∧ q < σ 45 (k + 1) - σ 45 k) ∧ w = 2) ∧ σ = u4 ∧ σ 43 (σ 45 k + q) = (u4 41 ((u4 45 k) + q)))))))))) ∧ (v4 = 0 → (((¬ ((0 ≤ k ∧ k < σ 9 13) ∧ 0 ≤ q ∧ q < σ 45 (k + 1) - σ 45 k) ∨ ¬ (0 ≤ w ∧ w ≤ 2)) ∧ σ = u4 ∧ -1000001 = (-1000001 : Int)) ∨ ((((0 ≤ k ∧ k < σ 9 13) ∧ 0 ≤ q ∧ q < σ 45 (k + 1) - σ 45 k) ∧ w = 0) ∧ σ = u4 ∧ σ 41 (σ 45 k + q) = (-1000001 : Int)) ∨ ((((0 ≤ k ∧ k < σ 9 13) ∧ 0 ≤ q ∧ q < σ 45 (k + 1) - σ 45 k) ∧ w = 1) ∧ σ = u4 ∧ σ 42 (σ 45 k + q) = (-1000001 : Int)) ∨ ((((0 ≤ k ∧ k < σ 9 13) ∧ 0 ≤ q ∧ q < σ 45 (k + 1) - σ 45 k) ∧ w = 2) ∧ σ = u4 ∧ σ 43 (σ 45 k + q) = (-1000001 : Int))))))))))))))
  have c0 := hm.2.1 k
  have c1 := hm.1
  refine ⟨_, am_X9_isInk (by omega), ?_⟩
  intro v1 u1 hv1
  rintro ⟨rfl, (⟨rfl, cv1⟩ | ⟨rfl, cv1⟩)⟩
  · refine ⟨?_, ?_⟩
    · exact fun h => absurd h (by decide)
    · intro _
      refine ⟨_, am_X9_many (by omega) (by omega) (by omega), ?_⟩
      intro v2 u2 hv2
      rintro ⟨rfl, rfl⟩
      obtain ⟨hv2a, hv2b⟩ := hv2
      refine ⟨by (exact ⟨by omega, by omega⟩), ?_⟩
      refine ⟨_, am_X9_in, ?_⟩
      intro v3 u3 hv3
      rintro ⟨rfl, (⟨rfl, cv3⟩ | ⟨rfl, cv3⟩)⟩
      · refine ⟨?_, ?_⟩
        · exact fun h => absurd h (by decide)
        · intro _
          refine ⟨_, am_X9_in, ?_⟩
          intro v4 u4 hv4
          rintro ⟨rfl, (⟨rfl, cv4⟩ | ⟨rfl, cv4⟩)⟩
          · refine ⟨?_, ?_⟩
            · intro _
              refine ⟨by (first | omega | exact ⟨by omega, by omega⟩ | exact ⟨by omega, by omega, by omega⟩ | exact ⟨by omega, by omega, by omega, by omega, by omega⟩), ?_⟩
              refine ⟨by (exact ⟨by omega, by omega⟩), ?_⟩
              refine ⟨?_, ?_⟩
              · intro h4
                refine ⟨?_, ?_⟩
                · intro h5
                  refine ⟨by (first | omega | exact ⟨by omega, by omega⟩ | exact ⟨by omega, by omega, by omega⟩ | exact ⟨by omega, by omega, by omega, by omega, by omega⟩), ?_⟩
                  first | exact (Or.inl ⟨by omega, rfl, rfl⟩) | exact (Or.inr (Or.inl ⟨by omega, rfl, rfl⟩)) | exact (Or.inr (Or.inr (Or.inl ⟨by omega, rfl, rfl⟩))) | exact (Or.inr (Or.inr (Or.inr ⟨by omega, rfl, rfl⟩)))
                · intro h6
                  refine ⟨by (first | omega | exact ⟨by omega, by omega⟩ | exact ⟨by omega, by omega, by omega⟩ | exact ⟨by omega, by omega, by omega, by omega, by omega⟩), ?_⟩
                  first | exact (Or.inl ⟨by omega, rfl, rfl⟩) | exact (Or.inr (Or.inl ⟨by omega, rfl, rfl⟩)) | exact (Or.inr (Or.inr (Or.inl ⟨by omega, rfl, rfl⟩))) | exact (Or.inr (Or.inr (Or.inr ⟨by omega, rfl, rfl⟩)))
              · intro h7
                refine ⟨by (first | omega | exact ⟨by omega, by omega⟩ | exact ⟨by omega, by omega, by omega⟩ | exact ⟨by omega, by omega, by omega, by omega, by omega⟩), ?_⟩
                first | exact (Or.inl ⟨by omega, rfl, rfl⟩) | exact (Or.inr (Or.inl ⟨by omega, rfl, rfl⟩)) | exact (Or.inr (Or.inr (Or.inl ⟨by omega, rfl, rfl⟩))) | exact (Or.inr (Or.inr (Or.inr ⟨by omega, rfl, rfl⟩)))
            · exact fun h => absurd h (by decide)
          · refine ⟨?_, ?_⟩
            · exact fun h => absurd h (by decide)
            · intro _
              first | exact (Or.inl ⟨by omega, rfl, rfl⟩) | exact (Or.inr (Or.inl ⟨by omega, rfl, rfl⟩)) | exact (Or.inr (Or.inr (Or.inl ⟨by omega, rfl, rfl⟩))) | exact (Or.inr (Or.inr (Or.inr ⟨by omega, rfl, rfl⟩)))
      · refine ⟨?_, ?_⟩
        · intro _
          first | exact (Or.inl ⟨by omega, rfl, rfl⟩) | exact (Or.inr (Or.inl ⟨by omega, rfl, rfl⟩)) | exact (Or.inr (Or.inr (Or.inl ⟨by omega, rfl, rfl⟩))) | exact (Or.inr (Or.inr (Or.inr ⟨by omega, rfl, rfl⟩)))
        · exact fun h => absurd h (by decide)
  · refine ⟨?_, ?_⟩
    · intro _
      first | exact (Or.inl ⟨by omega, rfl, rfl⟩) | exact (Or.inr (Or.inl ⟨by omega, rfl, rfl⟩)) | exact (Or.inr (Or.inr (Or.inl ⟨by omega, rfl, rfl⟩))) | exact (Or.inr (Or.inr (Or.inr ⟨by omega, rfl, rfl⟩)))
    · exact fun h => absurd h (by decide)
set_option maxRecDepth 100000 in
set_option maxHeartbeats 4000000 in
theorem lp_msheet {s : Int} {a : Int} {c : Int} {σ : zS} (hs : 0 ≤ s ∧ s < 8) (hc : 0 ≤ a ∧ a < 3 ∧ 0 ≤ c ∧ c ≤ 80) : ∀ (n : Nat) (k : Int) (ρ : zS), c - k < (n : Int) → (0 ≤ k) → (k ≤ c) → (ρ = zfill (zup (zup σ 37 s (a + 1)) 38 s c) 39 (80 * s) k 0) → zRuns 107 zX0 (fun (v : Int) (u : zS) => ((¬ (0 ≤ s ∧ s < 8) ∨ ¬ (0 ≤ a ∧ a < 3) ∨ 80 < c) ∧ σ = u ∧ -1000001 = v) ∨ (((0 ≤ s ∧ s < 8) ∧ 0 ≤ a ∧ a < 3 ∧ c < 0) ∧ zup σ 9 4 4 = u ∧ -1000014 = v) ∨ (((0 ≤ s ∧ s < 8) ∧ 0 ≤ a ∧ a < 3 ∧ 0 ≤ c ∧ c ≤ 80) ∧ zup (zfill (zup (zup σ 37 s (a + 1)) 38 s c) 39 (80 * s) c 0) 9 4 0 = u ∧ c = v)) 57 [some (.inr (.inr (9, 0))), some (.inl s), none, some (.inl c), some (.inl k)] [] ρ := by
  intro n
  induction n with
  | zero =>
    intro k ρ hn q0 q1 qs
    exfalso
    omega
  | succ n ih =>
    intro k ρ hn q0 q1 qs
    refine zwalk zmk_107 [(57, [true, true, false, true, true])] 3 ?_
    show ((c ≤ k → (∃ Rc : Int → zS → Prop, zAM 105 [.inr (.inr (9, 0)), .inl c] ρ Rc ∧ ∀ (v1 : Int) (u1 : zS), zI v1 → Rc v1 u1 → (((¬ (0 ≤ s ∧ s < 8) ∨ ¬ (0 ≤ a ∧ a < 3) ∨ 80 < c) ∧ σ = u1 ∧ -1000001 = v1) ∨ (((0 ≤ s ∧ s < 8) ∧ 0 ≤ a ∧ a < 3 ∧ c < 0) ∧ zup σ 9 4 4 = u1 ∧ -1000014 = v1) ∨ (((0 ≤ s ∧ s < 8) ∧ 0 ≤ a ∧ a < 3 ∧ 0 ≤ c ∧ c ≤ 80) ∧ zup (zfill (zup (zup σ 37 s (a + 1)) 38 s c) 39 (80 * s) c 0) 9 4 0 = u1 ∧ c = v1)))) ∧ (k < c → (zI ((80 : Int) * s) ∧ (zI (((80 : Int) * s) + k) ∧ ((0 ≤ (((80 : Int) * s) + k) ∧ (((80 : Int) * s) + k) < (640 : Int)) ∧ (zI (k + (1 : Int)) ∧ zRuns 107 zX0 (fun (v : Int) (u : zS) => ((¬ (0 ≤ s ∧ s < 8) ∨ ¬ (0 ≤ a ∧ a < 3) ∨ 80 < c) ∧ σ = u ∧ -1000001 = v) ∨ (((0 ≤ s ∧ s < 8) ∧ 0 ≤ a ∧ a < 3 ∧ c < 0) ∧ zup σ 9 4 4 = u ∧ -1000014 = v) ∨ (((0 ≤ s ∧ s < 8) ∧ 0 ≤ a ∧ a < 3 ∧ 0 ≤ c ∧ c ≤ 80) ∧ zup (zfill (zup (zup σ 37 s (a + 1)) 38 s c) 39 (80 * s) c 0) 9 4 0 = u ∧ c = v)) 57 [some (.inr (.inr (9, 0))), some (.inl s), none, some (.inl c), some (.inl (k + (1 : Int)))] [] (zup ρ 39 (((80 : Int) * s) + k) (0 : Int))))))))
    refine ⟨?_, ?_⟩
    · intro h1
      refine ⟨_, am_X9_well, ?_⟩
      intro v1 u1 hv1
      rintro ⟨rfl, rfl⟩
      obtain ⟨hv1a, hv1b⟩ := hv1
      rw [show k = c by omega] at qs
      rw [qs]
      exact Or.inr (Or.inr ⟨⟨hs, by omega, by omega, by omega, by omega⟩, rfl, rfl⟩)
    · intro h2
      refine ⟨by (first | exact ⟨by omega, by omega⟩ | (exfalso; omega)), ?_⟩
      refine ⟨by (first | exact ⟨by omega, by omega⟩ | (exfalso; omega)), ?_⟩
      refine ⟨by (first | exact ⟨by omega, by omega⟩ | (exfalso; omega)), ?_⟩
      refine ⟨by (first | exact ⟨by omega, by omega⟩ | (exfalso; omega)), ?_⟩
      exact ih _ _ (by omega) (by omega) (by omega) (by rw [qs]; exact zfill_s q0)
set_option maxRecDepth 100000 in
set_option maxHeartbeats 4000000 in
theorem am_X9_sheet {σ : zS} {s : Int} {a : Int} {c : Int} : zAM 107 [.inr (.inr (9, 0)), .inl s, .inl a, .inl c] σ (fun (v : Int) (u : zS) => ((¬ (0 ≤ s ∧ s < 8) ∨ ¬ (0 ≤ a ∧ a < 3) ∨ 80 < c) ∧ σ = u ∧ -1000001 = v) ∨ (((0 ≤ s ∧ s < 8) ∧ 0 ≤ a ∧ a < 3 ∧ c < 0) ∧ zup σ 9 4 4 = u ∧ -1000014 = v) ∨ (((0 ≤ s ∧ s < 8) ∧ 0 ≤ a ∧ a < 3 ∧ 0 ≤ c ∧ c ≤ 80) ∧ zup (zfill (zup (zup σ 37 s (a + 1)) 38 s c) 39 (80 * s) c 0) 9 4 0 = u ∧ c = v)) := by
  refine zam (by decide) (Nat.le_of_ble_eq_true rfl) ?_
  refine zwalk zmk_107 [(57, [true, true, false, true, true])] 4 ?_
  show (∃ Rc : Int → zS → Prop, zAM 106 [.inl s] σ Rc ∧ ∀ (v1 : Int) (u1 : zS), zI v1 → Rc v1 u1 → ((v1 = 0 → (((¬ (0 ≤ s ∧ s < 8) ∨ ¬ (0 ≤ a ∧ a < 3) ∨ 80 < c) ∧ σ = u1 ∧ -1000001 = (-1000001 : Int)) ∨ (((0 ≤ s ∧ s < 8) ∧ 0 ≤ a ∧ a < 3 ∧ c < 0) ∧ zup σ 9 4 4 = u1 ∧ -1000014 = (-1000001 : Int)) ∨ (((0 ≤ s ∧ s < 8) ∧ 0 ≤ a ∧ a < 3 ∧ 0 ≤ c ∧ c ≤ 80) ∧ zup (zfill (zup (zup σ 37 s (a + 1)) 38 s c) 39 (80 * s) c 0) 9 4 0 = u1 ∧ c = (-1000001 : Int)))) ∧ (¬ v1 = 0 → (∃ Rc : Int → zS → Prop, zAM 103 [.inr (.inl a), .inr (.inl (0 : Int)), .inr (.inl (2 : Int))] u1 Rc ∧ ∀ (v2 : Int) (u2 : zS), zI v2 → Rc v2 u2 → ((v2 = 0 → (((¬ (0 ≤ s ∧ s < 8) ∨ ¬ (0 ≤ a ∧ a < 3) ∨ 80 < c) ∧ σ = u2 ∧ -1000001 = (-1000001 : Int)) ∨ (((0 ≤ s ∧ s < 8) ∧ 0 ≤ a ∧ a < 3 ∧ c < 0) ∧ zup σ 9 4 4 = u2 ∧ -1000014 = (-1000001 : Int)) ∨ (((0 ≤ s ∧ s < 8) ∧ 0 ≤ a ∧ a < 3 ∧ 0 ≤ c ∧ c ≤ 80) ∧ zup (zfill (zup (zup σ 37 s (a + 1)) 38 s c) 39 (80 * s) c 0) 9 4 0 = u2 ∧ c = (-1000001 : Int)))) ∧ (¬ v2 = 0 → ((c ≤ (80 : Int) → ((0 ≤ c → (zI (a + (1 : Int)) ∧ ((0 ≤ s ∧ s < (8 : Int)) ∧ ((0 ≤ s ∧ s < (8 : Int)) ∧ zRuns 107 zX0 (fun (v : Int) (u : zS) => ((¬ (0 ≤ s ∧ s < 8) ∨ ¬ (0 ≤ a ∧ a < 3) ∨ 80 < c) ∧ σ = u ∧ -1000001 = v) ∨ (((0 ≤ s ∧ s < 8) ∧ 0 ≤ a ∧ a < 3 ∧ c < 0) ∧ zup σ 9 4 4 = u ∧ -1000014 = v) ∨ (((0 ≤ s ∧ s < 8) ∧ 0 ≤ a ∧ a < 3 ∧ 0 ≤ c ∧ c ≤ 80) ∧ zup (zfill (zup (zup σ 37 s (a + 1)) 38 s c) 39 (80 * s) c 0) 9 4 0 = u ∧ c = v)) 57 [some (.inr (.inr (9, 0))), some (.inl s), none, some (.inl c), some (.inl (0 : Int))] [] (zup (zup u2 37 s (a + (1 : Int))) 38 s c))))) ∧ (c < 0 → (∃ Rc : Int → zS → Prop, zAM 104 [.inr (.inr (9, 0)), .inl (4 : Int)] u2 Rc ∧ ∀ (v3 : Int) (u3 : zS), zI v3 → Rc v3 u3 → (((¬ (0 ≤ s ∧ s < 8) ∨ ¬ (0 ≤ a ∧ a < 3) ∨ 80 < c) ∧ σ = u3 ∧ -1000001 = v3) ∨ (((0 ≤ s ∧ s < 8) ∧ 0 ≤ a ∧ a < 3 ∧ c < 0) ∧ zup σ 9 4 4 = u3 ∧ -1000014 = v3) ∨ (((0 ≤ s ∧ s < 8) ∧ 0 ≤ a ∧ a < 3 ∧ 0 ≤ c ∧ c ≤ 80) ∧ zup (zfill (zup (zup σ 37 s (a + 1)) 38 s c) 39 (80 * s) c 0) 9 4 0 = u3 ∧ c = v3)))))) ∧ ((80 : Int) < c → (((¬ (0 ≤ s ∧ s < 8) ∨ ¬ (0 ≤ a ∧ a < 3) ∨ 80 < c) ∧ σ = u2 ∧ -1000001 = (-1000001 : Int)) ∨ (((0 ≤ s ∧ s < 8) ∧ 0 ≤ a ∧ a < 3 ∧ c < 0) ∧ zup σ 9 4 4 = u2 ∧ -1000014 = (-1000001 : Int)) ∨ (((0 ≤ s ∧ s < 8) ∧ 0 ≤ a ∧ a < 3 ∧ 0 ≤ c ∧ c ≤ 80) ∧ zup (zfill (zup (zup σ 37 s (a + 1)) 38 s c) 39 (80 * s) c 0) 9 4 0 = u2 ∧ c = (-1000001 : Int)))))))))))
  refine ⟨_, am_X9_isSheet, ?_⟩
  intro v1 u1 hv1
  rintro ⟨rfl, (⟨rfl, cv1⟩ | ⟨rfl, cv1⟩)⟩
  · refine ⟨?_, ?_⟩
    · exact fun h => absurd h (by decide)
    · intro _
      refine ⟨_, am_X9_in, ?_⟩
      intro v2 u2 hv2
      rintro ⟨rfl, (⟨rfl, cv2⟩ | ⟨rfl, cv2⟩)⟩
      · refine ⟨?_, ?_⟩
        · exact fun h => absurd h (by decide)
        · intro _
          refine ⟨?_, ?_⟩
          · intro h3
            refine ⟨?_, ?_⟩
            · intro h4
              refine ⟨by (first | exact ⟨by omega, by omega⟩ | (exfalso; omega)), ?_⟩
              refine ⟨by (first | exact ⟨by omega, by omega⟩ | (exfalso; omega)), ?_⟩
              refine ⟨by (first | exact ⟨by omega, by omega⟩ | (exfalso; omega)), ?_⟩
              exact lp_msheet (by omega) (by omega) 81 0 _ (by omega) (by omega) (by omega) zfill_0.symm
            · intro h5
              refine ⟨_, am_X9_finds (by omega), ?_⟩
              intro v3 u3 hv3
              rintro ⟨rfl, rfl⟩
              obtain ⟨hv3a, hv3b⟩ := hv3
              first | exact Or.inl ⟨by omega, rfl, rfl⟩ | exact Or.inr (Or.inl ⟨by omega, rfl, rfl⟩)
          · intro h6
            first | exact Or.inl ⟨by omega, rfl, rfl⟩ | exact Or.inr (Or.inl ⟨by omega, rfl, rfl⟩)
      · refine ⟨?_, ?_⟩
        · intro _
          first | exact Or.inl ⟨by omega, rfl, rfl⟩ | exact Or.inr (Or.inl ⟨by omega, rfl, rfl⟩)
        · exact fun h => absurd h (by decide)
  · refine ⟨?_, ?_⟩
    · intro _
      first | exact Or.inl ⟨by omega, rfl, rfl⟩ | exact Or.inr (Or.inl ⟨by omega, rfl, rfl⟩)
    · exact fun h => absurd h (by decide)
