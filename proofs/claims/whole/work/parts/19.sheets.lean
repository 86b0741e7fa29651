/-- what the class keeps of its SHEETS -/
def zCS (σ : zS) : Prop := ∀ k : Int, 0 ≤ k ∧ k < 8 → (σ 11 k = 0 ∨ σ 11 k = 1) ∧ 0 ≤ σ 12 k ∧ σ 12 k ≤ 2 ∧ 0 ≤ σ 13 k ∧ σ 13 k ≤ 80
/-- what the model keeps of its SHEETS -/
def zMS (σ : zS) : Prop := ∀ k : Int, 0 ≤ k ∧ k < 8 → 0 ≤ σ 37 k ∧ σ 37 k ≤ 3 ∧ 0 ≤ σ 38 k ∧ σ 38 k ≤ 80
set_option maxRecDepth 100000 in
set_option maxHeartbeats 4000000 in
theorem am_X8_sheet {σ : zS} {s : Int} {a : Int} {n : Int} : zAM 50 [.inr (.inr (0, 0)), .inl s, .inl a, .inl n] σ (fun (v : Int) (u : zS) => ((¬ (0 ≤ s ∧ s < 8) ∨ ¬ (0 ≤ a ∧ a < 3) ∨ 80 < n) ∧ σ = u ∧ -1000001 = v) ∨ ((0 ≤ s ∧ s < 8 ∧ 0 ≤ a ∧ a < 3 ∧ n < 0) ∧ zup σ 0 11 4 = u ∧ -1000014 = v) ∨ ((0 ≤ s ∧ s < 8 ∧ 0 ≤ a ∧ a < 3 ∧ 0 ≤ n ∧ n ≤ 80) ∧ zup (zfill (zup (zup (zup σ 11 s 1) 12 s a) 13 s n) 65 (80 * s) 80 0) 0 11 0 = u ∧ n = v)) := by
  refine zam (by decide) (Nat.le_of_ble_eq_true rfl) ?_
  refine zwalk zmk_50 [] 4 ?_
  show (∃ Rc : Int → zS → Prop, zAM 78 [.inl s] σ Rc ∧ ∀ (v1 : Int) (u1 : zS), zI v1 → Rc v1 u1 → ((v1 = 0 → (((¬ (0 ≤ s ∧ s < 8) ∨ ¬ (0 ≤ a ∧ a < 3) ∨ 80 < n) ∧ σ = u1 ∧ -1000001 = (-1000001 : Int)) ∨ ((0 ≤ s ∧ s < 8 ∧ 0 ≤ a ∧ a < 3 ∧ n < 0) ∧ zup σ 0 11 4 = u1 ∧ -1000014 = (-1000001 : Int)) ∨ ((0 ≤ s ∧ s < 8 ∧ 0 ≤ a ∧ a < 3 ∧ 0 ≤ n ∧ n ≤ 80) ∧ zup (zfill (zup (zup (zup σ 11 s 1) 12 s a) 13 s n) 65 (80 * s) 80 0) 0 11 0 = u1 ∧ n = (-1000001 : Int)))) ∧ (¬ v1 = 0 → ((a < 0 → (((¬ (0 ≤ s ∧ s < 8) ∨ ¬ (0 ≤ a ∧ a < 3) ∨ 80 < n) ∧ σ = u1 ∧ -1000001 = (-1000001 : Int)) ∨ ((0 ≤ s ∧ s < 8 ∧ 0 ≤ a ∧ a < 3 ∧ n < 0) ∧ zup σ 0 11 4 = u1 ∧ -1000014 = (-1000001 : Int)) ∨ ((0 ≤ s ∧ s < 8 ∧ 0 ≤ a ∧ a < 3 ∧ 0 ≤ n ∧ n ≤ 80) ∧ zup (zfill (zup (zup (zup σ 11 s 1) 12 s a) 13 s n) 65 (80 * s) 80 0) 0 11 0 = u1 ∧ n = (-1000001 : Int)))) ∧ (0 ≤ a → (((3 : Int) ≤ a → (((¬ (0 ≤ s ∧ s < 8) ∨ ¬ (0 ≤ a ∧ a < 3) ∨ 80 < n) ∧ σ = u1 ∧ -1000001 = (-1000001 : Int)) ∨ ((0 ≤ s ∧ s < 8 ∧ 0 ≤ a ∧ a < 3 ∧ n < 0) ∧ zup σ 0 11 4 = u1 ∧ -1000014 = (-1000001 : Int)) ∨ ((0 ≤ s ∧ s < 8 ∧ 0 ≤ a ∧ a < 3 ∧ 0 ≤ n ∧ n ≤ 80) ∧ zup (zfill (zup (zup (zup σ 11 s 1) 12 s a) 13 s n) 65 (80 * s) 80 0) 0 11 0 = u1 ∧ n = (-1000001 : Int)))) ∧ (a < (3 : Int) → ((n ≤ (80 : Int) → ((0 ≤ n → (∃ Rc : Int → zS → Prop, zAM 39 [.inr (.inr (1, 0)), .inl s, .inl a, .inl n] u1 Rc ∧ ∀ (u2 : zS), Rc 0 u2 → (∃ Rc : Int → zS → Prop, zAM 77 [.inr (.inr (0, 0)), .inl n] u2 Rc ∧ ∀ (v3 : Int) (u3 : zS), zI v3 → Rc v3 u3 → (((¬ (0 ≤ s ∧ s < 8) ∨ ¬ (0 ≤ a ∧ a < 3) ∨ 80 < n) ∧ σ = u3 ∧ -1000001 = v3) ∨ ((0 ≤ s ∧ s < 8 ∧ 0 ≤ a ∧ a < 3 ∧ n < 0) ∧ zup σ 0 11 4 = u3 ∧ -1000014 = v3) ∨ ((0 ≤ s ∧ s < 8 ∧ 0 ≤ a ∧ a < 3 ∧ 0 ≤ n ∧ n ≤ 80) ∧ zup (zfill (zup (zup (zup σ 11 s 1) 12 s a) 13 s n) 65 (80 * s) 80 0) 0 11 0 = u3 ∧ n = v3))))) ∧ (n < 0 → (∃ Rc : Int → zS → Prop, zAM 76 [.inr (.inr (0, 0)), .inl (4 : Int)] u1 Rc ∧ ∀ (v4 : Int) (u4 : zS), zI v4 → Rc v4 u4 → (((¬ (0 ≤ s ∧ s < 8) ∨ ¬ (0 ≤ a ∧ a < 3) ∨ 80 < n) ∧ σ = u4 ∧ -1000001 = v4) ∨ ((0 ≤ s ∧ s < 8 ∧ 0 ≤ a ∧ a < 3 ∧ n < 0) ∧ zup σ 0 11 4 = u4 ∧ -1000014 = v4) ∨ ((0 ≤ s ∧ s < 8 ∧ 0 ≤ a ∧ a < 3 ∧ 0 ≤ n ∧ n ≤ 80) ∧ zup (zfill (zup (zup (zup σ 11 s 1) 12 s a) 13 s n) 65 (80 * s) 80 0) 0 11 0 = u4 ∧ n = v4)))))) ∧ ((80 : Int) < n → (((¬ (0 ≤ s ∧ s < 8) ∨ ¬ (0 ≤ a ∧ a < 3) ∨ 80 < n) ∧ σ = u1 ∧ -1000001 = (-1000001 : Int)) ∨ ((0 ≤ s ∧ s < 8 ∧ 0 ≤ a ∧ a < 3 ∧ n < 0) ∧ zup σ 0 11 4 = u1 ∧ -1000014 = (-1000001 : Int)) ∨ ((0 ≤ s ∧ s < 8 ∧ 0 ≤ a ∧ a < 3 ∧ 0 ≤ n ∧ n ≤ 80) ∧ zup (zfill (zup (zup (zup σ 11 s 1) 12 s a) 13 s n) 65 (80 * s) 80 0) 0 11 0 = u1 ∧ n = (-1000001 : Int))))))))))))
  refine ⟨_, am_X8_isSheet, ?_⟩
  intro v1 u1 hv1
  rintro ⟨rfl, (⟨rfl, cv1⟩ | ⟨rfl, cv1⟩)⟩
  · refine ⟨?_, ?_⟩
    · exact fun h => absurd h (by decide)
    · intro _
      refine ⟨?_, ?_⟩
      · intro h2
        first | exact (Or.inl ⟨by omega, rfl, rfl⟩) | exact (Or.inr (Or.inl ⟨by omega, rfl, rfl⟩)) | exact (Or.inr (Or.inr ⟨by omega, rfl, rfl⟩))
      · intro h3
        refine ⟨?_, ?_⟩
        · intro h4
          first | exact (Or.inl ⟨by omega, rfl, rfl⟩) | exact (Or.inr (Or.inl ⟨by omega, rfl, rfl⟩)) | exact (Or.inr (Or.inr ⟨by omega, rfl, rfl⟩))
        · intro h5
          refine ⟨?_, ?_⟩
          · intro h6
            refine ⟨?_, ?_⟩
            · intro h7
              refine ⟨_, am_X5_lay (by omega), ?_⟩
              intro u2
              rintro rfl
              refine ⟨_, am_X8_fine, ?_⟩
              intro v3 u3 hv3
              rintro ⟨rfl, rfl⟩
              obtain ⟨hv3a, hv3b⟩ := hv3
              first | exact (Or.inl ⟨by omega, rfl, rfl⟩) | exact (Or.inr (Or.inl ⟨by omega, rfl, rfl⟩)) | exact (Or.inr (Or.inr ⟨by omega, rfl, rfl⟩))
            · intro h8
              refine ⟨_, am_X8_found (by omega), ?_⟩
              intro v4 u4 hv4
              rintro ⟨rfl, rfl⟩
              obtain ⟨hv4a, hv4b⟩ := hv4
              first | exact (Or.inl ⟨by omega, rfl, rfl⟩) | exact (Or.inr (Or.inl ⟨by omega, rfl, rfl⟩)) | exact (Or.inr (Or.inr ⟨by omega, rfl, rfl⟩))
          · intro h9
            first | exact (Or.inl ⟨by omega, rfl, rfl⟩) | exact (Or.inr (Or.inl ⟨by omega, rfl, rfl⟩)) | exact (Or.inr (Or.inr ⟨by omega, rfl, rfl⟩))
  · refine ⟨?_, ?_⟩
    · intro _
      first | exact (Or.inl ⟨by omega, rfl, rfl⟩) | exact (Or.inr (Or.inl ⟨by omega, rfl, rfl⟩)) | exact (Or.inr (Or.inr ⟨by omega, rfl, rfl⟩))
    · exact fun h => absurd h (by decide)
set_option maxRecDepth 100000 in
set_option maxHeartbeats 4000000 in
theorem am_X8_set {σ : zS} {s : Int} {i : Int} {x : Int} (hcs : zCS σ) : zAM 51 [.inr (.inr (0, 0)), .inl s, .inl i, .inl x] σ (fun (v : Int) (u : zS) => ((¬ (0 ≤ s ∧ s < 8)) ∧ σ = u ∧ -1000001 = v) ∨ ((0 ≤ s ∧ s < 8 ∧ σ 11 s = 0) ∧ zup σ 0 11 1 = u ∧ -1000011 = v) ∨ ((0 ≤ s ∧ s < 8 ∧ σ 11 s = 1 ∧ ¬ (0 ≤ i ∧ i < σ 13 s)) ∧ zup σ 0 11 2 = u ∧ -1000012 = v) ∨ ((0 ≤ s ∧ s < 8 ∧ σ 11 s = 1 ∧ 0 ≤ i ∧ i < σ 13 s) ∧ zup (zup σ 65 (80 * s + i) (zlane (σ 12 s) x)) 0 11 0 = u ∧ zlane (σ 12 s) x = v)) := by
  refine zam (by decide) (Nat.le_of_ble_eq_true rfl) ?_
  refine zwalk zmk_51 [] 5 ?_
  show (∃ Rc : Int → zS → Prop, zAM 78 [.inl s] σ Rc ∧ ∀ (v1 : Int) (u1 : zS), zI v1 → Rc v1 u1 → ((¬ v1 = 0 → ((0 ≤ s ∧ s < (8 : Int)) ∧ ((¬ (u1 11 s) = 0 → (∃ Rc : Int → zS → Prop, zAM 40 [.inr (.inr (1, 0)), .inl s, .inl i, .inl (1 : Int)] u1 Rc ∧ ∀ (v2 : Int) (u2 : zS), zI v2 → Rc v2 u2 → ((¬ v2 = 0 → (∃ Rc : Int → zS → Prop, zAM 41 [.inr (.inr (1, 0)), .inl s, .inl i, .inl x] u2 Rc ∧ ∀ (v3 : Int) (u3 : zS), zI v3 → Rc v3 u3 → (∃ Rc : Int → zS → Prop, zAM 77 [.inr (.inr (0, 0)), .inl v3] u3 Rc ∧ ∀ (v4 : Int) (u4 : zS), zI v4 → Rc v4 u4 → (((¬ (0 ≤ s ∧ s < 8)) ∧ σ = u4 ∧ -1000001 = v4) ∨ ((0 ≤ s ∧ s < 8 ∧ σ 11 s = 0) ∧ zup σ 0 11 1 = u4 ∧ -1000011 = v4) ∨ ((0 ≤ s ∧ s < 8 ∧ σ 11 s = 1 ∧ ¬ (0 ≤ i ∧ i < σ 13 s)) ∧ zup σ 0 11 2 = u4 ∧ -1000012 = v4) ∨ ((0 ≤ s ∧ s < 8 ∧ σ 11 s = 1 ∧ 0 ≤ i ∧ i < σ 13 s) ∧ zup (zup σ 65 (80 * s + i) (zlane (σ 12 s) x)) 0 11 0 = u4 ∧ zlane (σ 12 s) x = v4))))) ∧ (v2 = 0 → (∃ Rc : Int → zS → Prop, zAM 76 [.inr (.inr (0, 0)), .inl (2 : Int)] u2 Rc ∧ ∀ (v5 : Int) (u5 : zS), zI v5 → Rc v5 u5 → (((¬ (0 ≤ s ∧ s < 8)) ∧ σ = u5 ∧ -1000001 = v5) ∨ ((0 ≤ s ∧ s < 8 ∧ σ 11 s = 0) ∧ zup σ 0 11 1 = u5 ∧ -1000011 = v5) ∨ ((0 ≤ s ∧ s < 8 ∧ σ 11 s = 1 ∧ ¬ (0 ≤ i ∧ i < σ 13 s)) ∧ zup σ 0 11 2 = u5 ∧ -1000012 = v5) ∨ ((0 ≤ s ∧ s < 8 ∧ σ 11 s = 1 ∧ 0 ≤ i ∧ i < σ 13 s) ∧ zup (zup σ 65 (80 * s + i) (zlane (σ 12 s) x)) 0 11 0 = u5 ∧ zlane (σ 12 s) x = v5))))))) ∧ ((u1 11 s) = 0 → (∃ Rc : Int → zS → Prop, zAM 76 [.inr (.inr (0, 0)), .inl (1 : Int)] u1 Rc ∧ ∀ (v6 : Int) (u6 : zS), zI v6 → Rc v6 u6 → (((¬ (0 ≤ s ∧ s < 8)) ∧ σ = u6 ∧ -1000001 = v6) ∨ ((0 ≤ s ∧ s < 8 ∧ σ 11 s = 0) ∧ zup σ 0 11 1 = u6 ∧ -1000011 = v6) ∨ ((0 ≤ s ∧ s < 8 ∧ σ 11 s = 1 ∧ ¬ (0 ≤ i ∧ i < σ 13 s)) ∧ zup σ 0 11 2 = u6 ∧ -1000012 = v6) ∨ ((0 ≤ s ∧ s < 8 ∧ σ 11 s = 1 ∧ 0 ≤ i ∧ i < σ 13 s) ∧ zup (zup σ 65 (80 * s + i) (zlane (σ 12 s) x)) 0 11 0 = u6 ∧ zlane (σ 12 s) x = v6))))))) ∧ (v1 = 0 → (((¬ (0 ≤ s ∧ s < 8)) ∧ σ = u1 ∧ -1000001 = (-1000001 : Int)) ∨ ((0 ≤ s ∧ s < 8 ∧ σ 11 s = 0) ∧ zup σ 0 11 1 = u1 ∧ -1000011 = (-1000001 : Int)) ∨ ((0 ≤ s ∧ s < 8 ∧ σ 11 s = 1 ∧ ¬ (0 ≤ i ∧ i < σ 13 s)) ∧ zup σ 0 11 2 = u1 ∧ -1000012 = (-1000001 : Int)) ∨ ((0 ≤ s ∧ s < 8 ∧ σ 11 s = 1 ∧ 0 ≤ i ∧ i < σ 13 s) ∧ zup (zup σ 65 (80 * s + i) (zlane (σ 12 s) x)) 0 11 0 = u1 ∧ zlane (σ 12 s) x = (-1000001 : Int))))))
  have c0 := hcs s
  refine ⟨_, am_X8_isSheet, ?_⟩
  intro v1 u1 hv1
  rintro ⟨rfl, (⟨rfl, cv1⟩ | ⟨rfl, cv1⟩)⟩
  · refine ⟨?_, ?_⟩
    · intro _
      refine ⟨by (first | omega | exact ⟨by omega, by omega⟩ | exact ⟨by omega, by omega, by omega⟩ | exact ⟨by omega, by omega, by omega, by omega, by omega⟩), ?_⟩
      refine ⟨?_, ?_⟩
      · intro h2
        refine ⟨_, am_X5_reaches (by omega), ?_⟩
        intro v2 u2 hv2
        rintro ⟨rfl, (⟨rfl, cv2⟩ | ⟨rfl, cv2⟩)⟩
        · refine ⟨?_, ?_⟩
          · intro _
            refine ⟨_, am_X5_put (by omega) (by omega), ?_⟩
            intro v3 u3 hv3
            rintro ⟨rfl, rfl⟩
            obtain ⟨hv3a, hv3b⟩ := hv3
            refine ⟨_, am_X8_fine, ?_⟩
            intro v4 u4 hv4
            rintro ⟨rfl, rfl⟩
            obtain ⟨hv4a, hv4b⟩ := hv4
            first | exact (Or.inl ⟨by omega, rfl, rfl⟩) | exact (Or.inr (Or.inl ⟨by omega, rfl, rfl⟩)) | exact (Or.inr (Or.inr (Or.inl ⟨by omega, rfl, rfl⟩))) | exact (Or.inr (Or.inr (Or.inr ⟨by omega, rfl, rfl⟩)))
          · exact fun h => absurd h (by decide)
        · refine ⟨?_, ?_⟩
          · exact fun h => absurd h (by decide)
          · intro _
            refine ⟨_, am_X8_found (by omega), ?_⟩
            intro v5 u5 hv5
            rintro ⟨rfl, rfl⟩
            obtain ⟨hv5a, hv5b⟩ := hv5
            first | exact (Or.inl ⟨by omega, rfl, rfl⟩) | exact (Or.inr (Or.inl ⟨by omega, rfl, rfl⟩)) | exact (Or.inr (Or.inr (Or.inl ⟨by omega, rfl, rfl⟩))) | exact (Or.inr (Or.inr (Or.inr ⟨by omega, rfl, rfl⟩)))
      · intro h5
        refine ⟨_, am_X8_found (by omega), ?_⟩
        intro v6 u6 hv6
        rintro ⟨rfl, rfl⟩
        obtain ⟨hv6a, hv6b⟩ := hv6
        first | exact (Or.inl ⟨by omega, rfl, rfl⟩) | exact (Or.inr (Or.inl ⟨by omega, rfl, rfl⟩)) | exact (Or.inr (Or.inr (Or.inl ⟨by omega, rfl, rfl⟩))) | exact (Or.inr (Or.inr (Or.inr ⟨by omega, rfl, rfl⟩)))
    · exact fun h => absurd h (by decide)
  · refine ⟨?_, ?_⟩
    · exact fun h => absurd h (by decide)
    · intro _
      first | exact (Or.inl ⟨by omega, rfl, rfl⟩) | exact (Or.inr (Or.inl ⟨by omega, rfl, rfl⟩)) | exact (Or.inr (Or.inr (Or.inl ⟨by omega, rfl, rfl⟩))) | exact (Or.inr (Or.inr (Or.inr ⟨by omega, rfl, rfl⟩)))
set_option maxRecDepth 100000 in
set_option maxHeartbeats 4000000 in
theorem am_X8_drop {σ : zS} {s : Int} (hcs : zCS σ) : zAM 53 [.inr (.inr (0, 0)), .inl s] σ (fun (v : Int) (u : zS) => ((¬ (0 ≤ s ∧ s < 8)) ∧ σ = u ∧ -1000001 = v) ∨ ((0 ≤ s ∧ s < 8 ∧ σ 11 s = 0) ∧ zup σ 0 11 1 = u ∧ -1000011 = v) ∨ ((0 ≤ s ∧ s < 8 ∧ σ 11 s = 1) ∧ zup (zup σ 11 s 0) 0 11 0 = u ∧ σ 13 s = v)) := by
  refine zam (by decide) (Nat.le_of_ble_eq_true rfl) ?_
  refine zwalk zmk_53 [] 4 ?_
  show (∃ Rc : Int → zS → Prop, zAM 78 [.inl s] σ Rc ∧ ∀ (v1 : Int) (u1 : zS), zI v1 → Rc v1 u1 → ((¬ v1 = 0 → ((0 ≤ s ∧ s < (8 : Int)) ∧ ((¬ (u1 11 s) = 0 → ((((0 : Int) = 0 ∨ (0 : Int) = 1) ∧ 0 ≤ s ∧ s < (8 : Int)) ∧ ((0 ≤ s ∧ s < (8 : Int)) ∧ (∃ Rc : Int → zS → Prop, zAM 77 [.inr (.inr (0, 0)), .inl (u1 13 s)] (zup u1 11 s (0 : Int)) Rc ∧ ∀ (v2 : Int) (u2 : zS), zI v2 → Rc v2 u2 → (((¬ (0 ≤ s ∧ s < 8)) ∧ σ = u2 ∧ -1000001 = v2) ∨ ((0 ≤ s ∧ s < 8 ∧ σ 11 s = 0) ∧ zup σ 0 11 1 = u2 ∧ -1000011 = v2) ∨ ((0 ≤ s ∧ s < 8 ∧ σ 11 s = 1) ∧ zup (zup σ 11 s 0) 0 11 0 = u2 ∧ σ 13 s = v2)))))) ∧ ((u1 11 s) = 0 → (∃ Rc : Int → zS → Prop, zAM 76 [.inr (.inr (0, 0)), .inl (1 : Int)] u1 Rc ∧ ∀ (v3 : Int) (u3 : zS), zI v3 → Rc v3 u3 → (((¬ (0 ≤ s ∧ s < 8)) ∧ σ = u3 ∧ -1000001 = v3) ∨ ((0 ≤ s ∧ s < 8 ∧ σ 11 s = 0) ∧ zup σ 0 11 1 = u3 ∧ -1000011 = v3) ∨ ((0 ≤ s ∧ s < 8 ∧ σ 11 s = 1) ∧ zup (zup σ 11 s 0) 0 11 0 = u3 ∧ σ 13 s = v3))))))) ∧ (v1 = 0 → (((¬ (0 ≤ s ∧ s < 8)) ∧ σ = u1 ∧ -1000001 = (-1000001 : Int)) ∨ ((0 ≤ s ∧ s < 8 ∧ σ 11 s = 0) ∧ zup σ 0 11 1 = u1 ∧ -1000011 = (-1000001 : Int)) ∨ ((0 ≤ s ∧ s < 8 ∧ σ 11 s = 1) ∧ zup (zup σ 11 s 0) 0 11 0 = u1 ∧ σ 13 s = (-1000001 : Int))))))
  have c0 := hcs s
  refine ⟨_, am_X8_isSheet, ?_⟩
  intro v1 u1 hv1
  rintro ⟨rfl, (⟨rfl, cv1⟩ | ⟨rfl, cv1⟩)⟩
  · refine ⟨?_, ?_⟩
    · intro _
      refine ⟨by (first | omega | exact ⟨by omega, by omega⟩ | exact ⟨by omega, by omega, by omega⟩ | exact ⟨by omega, by omega, by omega, by omega, by omega⟩), ?_⟩
      refine ⟨?_, ?_⟩
      · intro h2
        refine ⟨by (first | omega | exact ⟨by omega, by omega⟩ | exact ⟨by omega, by omega, by omega⟩ | exact ⟨by omega, by omega, by omega, by omega, by omega⟩), ?_⟩
        refine ⟨by (first | omega | exact ⟨by omega, by omega⟩ | exact ⟨by omega, by omega, by omega⟩ | exact ⟨by omega, by omega, by omega, by omega, by omega⟩), ?_⟩
        refine ⟨_, am_X8_fine, ?_⟩
        intro v2 u2 hv2
        rintro ⟨rfl, rfl⟩
        obtain ⟨hv2a, hv2b⟩ := hv2
        first | exact (Or.inl ⟨by omega, rfl, rfl⟩) | exact (Or.inr (Or.inl ⟨by omega, rfl, rfl⟩)) | exact (Or.inr (Or.inr ⟨by omega, rfl, rfl⟩))
      · intro h3
        refine ⟨_, am_X8_found (by omega), ?_⟩
        intro v3 u3 hv3
        rintro ⟨rfl, rfl⟩
        obtain ⟨hv3a, hv3b⟩ := hv3
        first | exact (Or.inl ⟨by omega, rfl, rfl⟩) | exact (Or.inr (Or.inl ⟨by omega, rfl, rfl⟩)) | exact (Or.inr (Or.inr ⟨by omega, rfl, rfl⟩))
    · exact fun h => absurd h (by decide)
  · refine ⟨?_, ?_⟩
    · exact fun h => absurd h (by decide)
    · intro _
      first | exact (Or.inl ⟨by omega, rfl, rfl⟩) | exact (Or.inr (Or.inl ⟨by omega, rfl, rfl⟩)) | exact (Or.inr (Or.inr ⟨by omega, rfl, rfl⟩))
set_option maxRecDepth 100000 in
set_option maxHeartbeats 4000000 in
theorem am_X8_copy {σ : zS} {a : Int} {i : Int} {b : Int} {j : Int} {n : Int} (hcs : zCS σ) : zAM 52 [.inr (.inr (0, 0)), .inl a, .inl i, .inl b, .inl j, .inl n] σ (fun (v : Int) (u : zS) => ((¬ ((0 ≤ a ∧ a < 8) ∧ 0 ≤ b ∧ b < 8)) ∧ σ = u ∧ -1000001 = v) ∨ (((0 ≤ a ∧ a < 8) ∧ 0 ≤ b ∧ b < 8 ∧ (σ 11 a = 0 ∨ σ 11 b = 0)) ∧ zup σ 0 11 1 = u ∧ -1000011 = v) ∨ (((0 ≤ a ∧ a < 8) ∧ 0 ≤ b ∧ b < 8 ∧ σ 11 a = 1 ∧ σ 11 b = 1 ∧ ¬ σ 12 a = σ 12 b) ∧ zup σ 0 11 5 = u ∧ -1000015 = v) ∨ (((0 ≤ a ∧ a < 8) ∧ 0 ≤ b ∧ b < 8 ∧ σ 11 a = 1 ∧ σ 11 b = 1 ∧ σ 12 a = σ 12 b ∧ ¬ (0 ≤ i ∧ 0 ≤ j ∧ 0 ≤ n ∧ i + n ≤ σ 13 a ∧ j + n ≤ σ 13 b)) ∧ zup σ 0 11 2 = u ∧ -1000012 = v) ∨ (((0 ≤ a ∧ a < 8) ∧ 0 ≤ b ∧ b < 8 ∧ σ 11 a = 1 ∧ σ 11 b = 1 ∧ σ 12 a = σ 12 b ∧ 0 ≤ i ∧ 0 ≤ j ∧ 0 ≤ n ∧ i + n ≤ σ 13 a ∧ j + n ≤ σ 13 b) ∧ zup (zcp σ 65 (80 * a + i) 65 (80 * b + j) n) 0 11 0 = u ∧ n = v)) := by
  refine zam (by decide) (Nat.le_of_ble_eq_true rfl) ?_
  refine zwalk zmk_52 [] 6 ?_
  show (∃ Rc : Int → zS → Prop, zAM 78 [.inl a] σ Rc ∧ ∀ (v1 : Int) (u1 : zS), zI v1 → Rc v1 u1 → ((v1 = 0 → (((¬ ((0 ≤ a ∧ a < 8) ∧ 0 ≤ b ∧ b < 8)) ∧ σ = u1 ∧ -1000001 = (-1000001 : Int)) ∨ (((0 ≤ a ∧ a < 8) ∧ 0 ≤ b ∧ b < 8 ∧ (σ 11 a = 0 ∨ σ 11 b = 0)) ∧ zup σ 0 11 1 = u1 ∧ -1000011 = (-1000001 : Int)) ∨ (((0 ≤ a ∧ a < 8) ∧ 0 ≤ b ∧ b < 8 ∧ σ 11 a = 1 ∧ σ 11 b = 1 ∧ ¬ σ 12 a = σ 12 b) ∧ zup σ 0 11 5 = u1 ∧ -1000015 = (-1000001 : Int)) ∨ (((0 ≤ a ∧ a < 8) ∧ 0 ≤ b ∧ b < 8 ∧ σ 11 a = 1 ∧ σ 11 b = 1 ∧ σ 12 a = σ 12 b ∧ ¬ (0 ≤ i ∧ 0 ≤ j ∧ 0 ≤ n ∧ i + n ≤ σ 13 a ∧ j + n ≤ σ 13 b)) ∧ zup σ 0 11 2 = u1 ∧ -1000012 = (-1000001 : Int)) ∨ (((0 ≤ a ∧ a < 8) ∧ 0 ≤ b ∧ b < 8 ∧ σ 11 a = 1 ∧ σ 11 b = 1 ∧ σ 12 a = σ 12 b ∧ 0 ≤ i ∧ 0 ≤ j ∧ 0 ≤ n ∧ i + n ≤ σ 13 a ∧ j + n ≤ σ 13 b) ∧ zup (zcp σ 65 (80 * a + i) 65 (80 * b + j) n) 0 11 0 = u1 ∧ n = (-1000001 : Int)))) ∧ (¬ v1 = 0 → (∃ Rc : Int → zS → Prop, zAM 78 [.inl b] u1 Rc ∧ ∀ (v2 : Int) (u2 : zS), zI v2 → Rc v2 u2 → ((¬ v2 = 0 → ((0 ≤ a ∧ a < (8 : Int)) ∧ (((u2 11 a) = 0 → (∃ Rc : Int → zS → Prop, zAM 76 [.inr (.inr (0, 0)), .inl (1 : Int)] u2 Rc ∧ ∀ (v3 : Int) (u3 : zS), zI v3 → Rc v3 u3 → (((¬ ((0 ≤ a ∧ a < 8) ∧ 0 ≤ b ∧ b < 8)) ∧ σ = u3 ∧ -1000001 = v3) ∨ (((0 ≤ a ∧ a < 8) ∧ 0 ≤ b ∧ b < 8 ∧ (σ 11 a = 0 ∨ σ 11 b = 0)) ∧ zup σ 0 11 1 = u3 ∧ -1000011 = v3) ∨ (((0 ≤ a ∧ a < 8) ∧ 0 ≤ b ∧ b < 8 ∧ σ 11 a = 1 ∧ σ 11 b = 1 ∧ ¬ σ 12 a = σ 12 b) ∧ zup σ 0 11 5 = u3 ∧ -1000015 = v3) ∨ (((0 ≤ a ∧ a < 8) ∧ 0 ≤ b ∧ b < 8 ∧ σ 11 a = 1 ∧ σ 11 b = 1 ∧ σ 12 a = σ 12 b ∧ ¬ (0 ≤ i ∧ 0 ≤ j ∧ 0 ≤ n ∧ i + n ≤ σ 13 a ∧ j + n ≤ σ 13 b)) ∧ zup σ 0 11 2 = u3 ∧ -1000012 = v3) ∨ (((0 ≤ a ∧ a < 8) ∧ 0 ≤ b ∧ b < 8 ∧ σ 11 a = 1 ∧ σ 11 b = 1 ∧ σ 12 a = σ 12 b ∧ 0 ≤ i ∧ 0 ≤ j ∧ 0 ≤ n ∧ i + n ≤ σ 13 a ∧ j + n ≤ σ 13 b) ∧ zup (zcp σ 65 (80 * a + i) 65 (80 * b + j) n) 0 11 0 = u3 ∧ n = v3)))) ∧ (¬ (u2 11 a) = 0 → ((0 ≤ b ∧ b < (8 : Int)) ∧ ((¬ (u2 11 b) = 0 → ((0 ≤ a ∧ a < (8 : Int)) ∧ ((0 ≤ b ∧ b < (8 : Int)) ∧ (((u2 12 a) = (u2 12 b) → (∃ Rc : Int → zS → Prop, zAM 40 [.inr (.inr (1, 0)), .inl a, .inl i, .inl n] u2 Rc ∧ ∀ (v4 : Int) (u4 : zS), zI v4 → Rc v4 u4 → ((v4 = 0 → (∃ Rc : Int → zS → Prop, zAM 76 [.inr (.inr (0, 0)), .inl (2 : Int)] u4 Rc ∧ ∀ (v5 : Int) (u5 : zS), zI v5 → Rc v5 u5 → (((¬ ((0 ≤ a ∧ a < 8) ∧ 0 ≤ b ∧ b < 8)) ∧ σ = u5 ∧ -1000001 = v5) ∨ (((0 ≤ a ∧ a < 8) ∧ 0 ≤ b ∧ b < 8 ∧ (σ 11 a = 0 ∨ σ 11 b = 0)) ∧ zup σ 0 11 1 = u5 ∧ -1000011 = v5) ∨ (((0 ≤ a ∧ a < 8) ∧ 0 ≤ b ∧ b < 8 ∧ σ 11 a = 1 ∧ σ 11 b = 1 ∧ ¬ σ 12 a = σ 12 b) ∧ zup σ 0 11 5 = u5 ∧ -1000015 = v5) ∨ (((0 ≤ a ∧ a < 8) ∧ 0 ≤ b ∧ b < 8 ∧ σ 11 a = 1 ∧ σ 11 b = 1 ∧ σ 12 a = σ 12 b ∧ ¬ (0 ≤ i ∧ 0 ≤ j ∧ 0 ≤ n ∧ i + n ≤ σ 13 a ∧ j + n ≤ σ 13 b)) ∧ zup σ 0 11 2 = u5 ∧ -1000012 = v5) ∨ (((0 ≤ a ∧ a < 8) ∧ 0 ≤ b ∧ b < 8 ∧ σ 11 a = 1 ∧ σ 11 b = 1 ∧ σ 12 a = σ 12 b ∧ 0 ≤ i ∧ 0 ≤ j ∧ 0 ≤ n ∧ i + n ≤ σ 13 a ∧ j + n ≤ σ 13 b) ∧ zup (zcp σ 65 (80 * a + i) 65 (80 * b + j) n) 0 11 0 = u5 ∧ n = v5)))) ∧ (¬ v4 = 0 → (∃ Rc : Int → zS → Prop, zAM 40 [.inr (.inr (1, 0)), .inl b, .inl j, .inl n] u4 Rc ∧ ∀ (v6 : Int) (u6 : zS), zI v6 → Rc v6 u6 → ((¬ v6 = 0 → ((0 ≤ a ∧ a < 8) ∧ ((0 ≤ b ∧ b < 8) ∧ ((0 ≤ i ∧ 0 ≤ j ∧ 0 ≤ n ∧ i + n ≤ 80 ∧ j + n ≤ 80) ∧ (∃ Rc : Int → zS → Prop, zAM 77 [.inr (.inr (0, 0)), .inl n] (zcp u6 65 ((80 * a) + i) 65 ((80 * b) + j) n) Rc ∧ ∀ (v7 : Int) (u7 : zS), zI v7 → Rc v7 u7 → (((¬ ((0 ≤ a ∧ a < 8) ∧ 0 ≤ b ∧ b < 8)) ∧ σ = u7 ∧ -1000001 = v7) ∨ (((0 ≤ a ∧ a < 8) ∧ 0 ≤ b ∧ b < 8 ∧ (σ 11 a = 0 ∨ σ 11 b = 0)) ∧ zup σ 0 11 1 = u7 ∧ -1000011 = v7) ∨ (((0 ≤ a ∧ a < 8) ∧ 0 ≤ b ∧ b < 8 ∧ σ 11 a = 1 ∧ σ 11 b = 1 ∧ ¬ σ 12 a = σ 12 b) ∧ zup σ 0 11 5 = u7 ∧ -1000015 = v7) ∨ (((0 ≤ a ∧ a < 8) ∧ 0 ≤ b ∧ b < 8 ∧ σ 11 a = 1 ∧ σ 11 b = 1 ∧ σ 12 a = σ 12 b ∧ ¬ (0 ≤ i ∧ 0 ≤ j ∧ 0 ≤ n ∧ i + n ≤ σ 13 a ∧ j + n ≤ σ 13 b)) ∧ zup σ 0 11 2 = u7 ∧ -1000012 = v7) ∨ (((0 ≤ a ∧ a < 8) ∧ 0 ≤ b ∧ b < 8 ∧ σ 11 a = 1 ∧ σ 11 b = 1 ∧ σ 12 a = σ 12 b ∧ 0 ≤ i ∧ 0 ≤ j ∧ 0 ≤ n ∧ i + n ≤ σ 13 a ∧ j + n ≤ σ 13 b) ∧ zup (zcp σ 65 (80 * a + i) 65 (80 * b + j) n) 0 11 0 = u7 ∧ n = v7))))))) ∧ (v6 = 0 → (∃ Rc : Int → zS → Prop, zAM 76 [.inr (.inr (0, 0)), .inl (2 : Int)] u6 Rc ∧ ∀ (v8 : Int) (u8 : zS), zI v8 → Rc v8 u8 → (((¬ ((0 ≤ a ∧ a < 8) ∧ 0 ≤ b ∧ b < 8)) ∧ σ = u8 ∧ -1000001 = v8) ∨ (((0 ≤ a ∧ a < 8) ∧ 0 ≤ b ∧ b < 8 ∧ (σ 11 a = 0 ∨ σ 11 b = 0)) ∧ zup σ 0 11 1 = u8 ∧ -1000011 = v8) ∨ (((0 ≤ a ∧ a < 8) ∧ 0 ≤ b ∧ b < 8 ∧ σ 11 a = 1 ∧ σ 11 b = 1 ∧ ¬ σ 12 a = σ 12 b) ∧ zup σ 0 11 5 = u8 ∧ -1000015 = v8) ∨ (((0 ≤ a ∧ a < 8) ∧ 0 ≤ b ∧ b < 8 ∧ σ 11 a = 1 ∧ σ 11 b = 1 ∧ σ 12 a = σ 12 b ∧ ¬ (0 ≤ i ∧ 0 ≤ j ∧ 0 ≤ n ∧ i + n ≤ σ 13 a ∧ j + n ≤ σ 13 b)) ∧ zup σ 0 11 2 = u8 ∧ -1000012 = v8) ∨ (((0 ≤ a ∧ a < 8) ∧ 0 ≤ b ∧ b < 8 ∧ σ 11 a = 1 ∧ σ 11 b = 1 ∧ σ 12 a = σ 12 b ∧ 0 ≤ i ∧ 0 ≤ j ∧ 0 ≤ n ∧ i + n ≤ σ 13 a ∧ j + n ≤ σ 13 b) ∧ zup (zcp σ 65 (80 * a + i) 65 (80 * b + j) n) 0 11 0 = u8 ∧ n = v8)))))))))) ∧ (¬ (u2 12 a) = (u2 12 b) → (∃ Rc : Int → zS → Prop, zAM 76 [.inr (.inr (0, 0)), .inl (5 : Int)] u2 Rc ∧ ∀ (v9 : Int) (u9 : zS), zI v9 → Rc v9 u9 → (((¬ ((0 ≤ a ∧ a < 8) ∧ 0 ≤ b ∧ b < 8)) ∧ σ = u9 ∧ -1000001 = v9) ∨ (((0 ≤ a ∧ a < 8) ∧ 0 ≤ b ∧ b < 8 ∧ (σ 11 a = 0 ∨ σ 11 b = 0)) ∧ zup σ 0 11 1 = u9 ∧ -1000011 = v9) ∨ (((0 ≤ a ∧ a < 8) ∧ 0 ≤ b ∧ b < 8 ∧ σ 11 a = 1 ∧ σ 11 b = 1 ∧ ¬ σ 12 a = σ 12 b) ∧ zup σ 0 11 5 = u9 ∧ -1000015 = v9) ∨ (((0 ≤ a ∧ a < 8) ∧ 0 ≤ b ∧ b < 8 ∧ σ 11 a = 1 ∧ σ 11 b = 1 ∧ σ 12 a = σ 12 b ∧ ¬ (0 ≤ i ∧ 0 ≤ j ∧ 0 ≤ n ∧ i + n ≤ σ 13 a ∧ j + n ≤ σ 13 b)) ∧ zup σ 0 11 2 = u9 ∧ -1000012 = v9) ∨ (((0 ≤ a ∧ a < 8) ∧ 0 ≤ b ∧ b < 8 ∧ σ 11 a = 1 ∧ σ 11 b = 1 ∧ σ 12 a = σ 12 b ∧ 0 ≤ i ∧ 0 ≤ j ∧ 0 ≤ n ∧ i + n ≤ σ 13 a ∧ j + n ≤ σ 13 b) ∧ zup (zcp σ 65 (80 * a + i) 65 (80 * b + j) n) 0 11 0 = u9 ∧ n = v9)))))))) ∧ ((u2 11 b) = 0 → (∃ Rc : Int → zS → Prop, zAM 76 [.inr (.inr (0, 0)), .inl (1 : Int)] u2 Rc ∧ ∀ (v10 : Int) (u10 : zS), zI v10 → Rc v10 u10 → (((¬ ((0 ≤ a ∧ a < 8) ∧ 0 ≤ b ∧ b < 8)) ∧ σ = u10 ∧ -1000001 = v10) ∨ (((0 ≤ a ∧ a < 8) ∧ 0 ≤ b ∧ b < 8 ∧ (σ 11 a = 0 ∨ σ 11 b = 0)) ∧ zup σ 0 11 1 = u10 ∧ -1000011 = v10) ∨ (((0 ≤ a ∧ a < 8) ∧ 0 ≤ b ∧ b < 8 ∧ σ 11 a = 1 ∧ σ 11 b = 1 ∧ ¬ σ 12 a = σ 12 b) ∧ zup σ 0 11 5 = u10 ∧ -1000015 = v10) ∨ (((0 ≤ a ∧ a < 8) ∧ 0 ≤ b ∧ b < 8 ∧ σ 11 a = 1 ∧ σ 11 b = 1 ∧ σ 12 a = σ 12 b ∧ ¬ (0 ≤ i ∧ 0 ≤ j ∧ 0 ≤ n ∧ i + n ≤ σ 13 a ∧ j + n ≤ σ 13 b)) ∧ zup σ 0 11 2 = u10 ∧ -1000012 = v10) ∨ (((0 ≤ a ∧ a < 8) ∧ 0 ≤ b ∧ b < 8 ∧ σ 11 a = 1 ∧ σ 11 b = 1 ∧ σ 12 a = σ 12 b ∧ 0 ≤ i ∧ 0 ≤ j ∧ 0 ≤ n ∧ i + n ≤ σ 13 a ∧ j + n ≤ σ 13 b) ∧ zup (zcp σ 65 (80 * a + i) 65 (80 * b + j) n) 0 11 0 = u10 ∧ n = v10)))))))))) ∧ (v2 = 0 → (((¬ ((0 ≤ a ∧ a < 8) ∧ 0 ≤ b ∧ b < 8)) ∧ σ = u2 ∧ -1000001 = (-1000001 : Int)) ∨ (((0 ≤ a ∧ a < 8) ∧ 0 ≤ b ∧ b < 8 ∧ (σ 11 a = 0 ∨ σ 11 b = 0)) ∧ zup σ 0 11 1 = u2 ∧ -1000011 = (-1000001 : Int)) ∨ (((0 ≤ a ∧ a < 8) ∧ 0 ≤ b ∧ b < 8 ∧ σ 11 a = 1 ∧ σ 11 b = 1 ∧ ¬ σ 12 a = σ 12 b) ∧ zup σ 0 11 5 = u2 ∧ -1000015 = (-1000001 : Int)) ∨ (((0 ≤ a ∧ a < 8) ∧ 0 ≤ b ∧ b < 8 ∧ σ 11 a = 1 ∧ σ 11 b = 1 ∧ σ 12 a = σ 12 b ∧ ¬ (0 ≤ i ∧ 0 ≤ j ∧ 0 ≤ n ∧ i + n ≤ σ 13 a ∧ j + n ≤ σ 13 b)) ∧ zup σ 0 11 2 = u2 ∧ -1000012 = (-1000001 : Int)) ∨ (((0 ≤ a ∧ a < 8) ∧ 0 ≤ b ∧ b < 8 ∧ σ 11 a = 1 ∧ σ 11 b = 1 ∧ σ 12 a = σ 12 b ∧ 0 ≤ i ∧ 0 ≤ j ∧ 0 ≤ n ∧ i + n ≤ σ 13 a ∧ j + n ≤ σ 13 b) ∧ zup (zcp σ 65 (80 * a + i) 65 (80 * b + j) n) 0 11 0 = u2 ∧ n = (-1000001 : Int)))))))))
  have c0 := hcs a
  have c1 := hcs b
  refine ⟨_, am_X8_isSheet, ?_⟩
  intro v1 u1 hv1
  rintro ⟨rfl, (⟨rfl, cv1⟩ | ⟨rfl, cv1⟩)⟩
  · refine ⟨?_, ?_⟩
    · exact fun h => absurd h (by decide)
    · intro _
      refine ⟨_, am_X8_isSheet, ?_⟩
      intro v2 u2 hv2
      rintro ⟨rfl, (⟨rfl, cv2⟩ | ⟨rfl, cv2⟩)⟩
      · refine ⟨?_, ?_⟩
        · intro _
          refine ⟨by (first | omega | exact ⟨by omega, by omega⟩ | exact ⟨by omega, by omega, by omega⟩ | exact ⟨by omega, by omega, by omega, by omega, by omega⟩), ?_⟩
          refine ⟨?_, ?_⟩
          · intro h3
            refine ⟨_, am_X8_found (by omega), ?_⟩
            intro v3 u3 hv3
            rintro ⟨rfl, rfl⟩
            obtain ⟨hv3a, hv3b⟩ := hv3
            first | exact (Or.inl ⟨by omega, rfl, rfl⟩) | exact (Or.inr (Or.inl ⟨by omega, rfl, rfl⟩)) | exact (Or.inr (Or.inr (Or.inl ⟨by omega, rfl, rfl⟩))) | exact (Or.inr (Or.inr (Or.inr (Or.inl ⟨by omega, rfl, rfl⟩)))) | exact (Or.inr (Or.inr (Or.inr (Or.inr ⟨by omega, rfl, rfl⟩))))
          · intro h4
            refine ⟨by (first | omega | exact ⟨by omega, by omega⟩ | exact ⟨by omega, by omega, by omega⟩ | exact ⟨by omega, by omega, by omega, by omega, by omega⟩), ?_⟩
            refine ⟨?_, ?_⟩
            · intro h5
              refine ⟨by (first | omega | exact ⟨by omega, by omega⟩ | exact ⟨by omega, by omega, by omega⟩ | exact ⟨by omega, by omega, by omega, by omega, by omega⟩), ?_⟩
              refine ⟨by (first | omega | exact ⟨by omega, by omega⟩ | exact ⟨by omega, by omega, by omega⟩ | exact ⟨by omega, by omega, by omega, by omega, by omega⟩), ?_⟩
              refine ⟨?_, ?_⟩
              · intro h6
                refine ⟨_, am_X5_reaches (by omega), ?_⟩
                intro v4 u4 hv4
                rintro ⟨rfl, (⟨rfl, cv4⟩ | ⟨rfl, cv4⟩)⟩
                · refine ⟨?_, ?_⟩
                  · exact fun h => absurd h (by decide)
                  · intro _
                    refine ⟨_, am_X5_reaches (by omega), ?_⟩
                    intro v6 u6 hv6
                    rintro ⟨rfl, (⟨rfl, cv6⟩ | ⟨rfl, cv6⟩)⟩
                    · refine ⟨?_, ?_⟩
                      · intro _
                        refine ⟨by (first | omega | exact ⟨by omega, by omega⟩ | exact ⟨by omega, by omega, by omega⟩ | exact ⟨by omega, by omega, by omega, by omega, by omega⟩), ?_⟩
                        refine ⟨by (first | omega | exact ⟨by omega, by omega⟩ | exact ⟨by omega, by omega, by omega⟩ | exact ⟨by omega, by omega, by omega, by omega, by omega⟩), ?_⟩
                        refine ⟨by (first | omega | exact ⟨by omega, by omega⟩ | exact ⟨by omega, by omega, by omega⟩ | exact ⟨by omega, by omega, by omega, by omega, by omega⟩), ?_⟩
                        refine ⟨_, am_X8_fine, ?_⟩
                        intro v7 u7 hv7
                        rintro ⟨rfl, rfl⟩
                        obtain ⟨hv7a, hv7b⟩ := hv7
                        first | exact (Or.inl ⟨by omega, rfl, rfl⟩) | exact (Or.inr (Or.inl ⟨by omega, rfl, rfl⟩)) | exact (Or.inr (Or.inr (Or.inl ⟨by omega, rfl, rfl⟩))) | exact (Or.inr (Or.inr (Or.inr (Or.inl ⟨by omega, rfl, rfl⟩)))) | exact (Or.inr (Or.inr (Or.inr (Or.inr ⟨by omega, rfl, rfl⟩))))
                      · exact fun h => absurd h (by decide)
                    · refine ⟨?_, ?_⟩
                      · exact fun h => absurd h (by decide)
                      · intro _
                        refine ⟨_, am_X8_found (by omega), ?_⟩
                        intro v8 u8 hv8
                        rintro ⟨rfl, rfl⟩
                        obtain ⟨hv8a, hv8b⟩ := hv8
                        first | exact (Or.inl ⟨by omega, rfl, rfl⟩) | exact (Or.inr (Or.inl ⟨by omega, rfl, rfl⟩)) | exact (Or.inr (Or.inr (Or.inl ⟨by omega, rfl, rfl⟩))) | exact (Or.inr (Or.inr (Or.inr (Or.inl ⟨by omega, rfl, rfl⟩)))) | exact (Or.inr (Or.inr (Or.inr (Or.inr ⟨by omega, rfl, rfl⟩))))
                · refine ⟨?_, ?_⟩
                  · intro _
                    refine ⟨_, am_X8_found (by omega), ?_⟩
                    intro v5 u5 hv5
                    rintro ⟨rfl, rfl⟩
                    obtain ⟨hv5a, hv5b⟩ := hv5
                    first | exact (Or.inl ⟨by omega, rfl, rfl⟩) | exact (Or.inr (Or.inl ⟨by omega, rfl, rfl⟩)) | exact (Or.inr (Or.inr (Or.inl ⟨by omega, rfl, rfl⟩))) | exact (Or.inr (Or.inr (Or.inr (Or.inl ⟨by omega, rfl, rfl⟩)))) | exact (Or.inr (Or.inr (Or.inr (Or.inr ⟨by omega, rfl, rfl⟩))))
                  · exact fun h => absurd h (by decide)
              · intro h11
                refine ⟨_, am_X8_found (by omega), ?_⟩
                intro v9 u9 hv9
                rintro ⟨rfl, rfl⟩
                obtain ⟨hv9a, hv9b⟩ := hv9
                first | exact (Or.inl ⟨by omega, rfl, rfl⟩) | exact (Or.inr (Or.inl ⟨by omega, rfl, rfl⟩)) | exact (Or.inr (Or.inr (Or.inl ⟨by omega, rfl, rfl⟩))) | exact (Or.inr (Or.inr (Or.inr (Or.inl ⟨by omega, rfl, rfl⟩)))) | exact (Or.inr (Or.inr (Or.inr (Or.inr ⟨by omega, rfl, rfl⟩))))
            · intro h12
              refine ⟨_, am_X8_found (by omega), ?_⟩
              intro v10 u10 hv10
              rintro ⟨rfl, rfl⟩
              obtain ⟨hv10a, hv10b⟩ := hv10
              first | exact (Or.inl ⟨by omega, rfl, rfl⟩) | exact (Or.inr (Or.inl ⟨by omega, rfl, rfl⟩)) | exact (Or.inr (Or.inr (Or.inl ⟨by omega, rfl, rfl⟩))) | exact (Or.inr (Or.inr (Or.inr (Or.inl ⟨by omega, rfl, rfl⟩)))) | exact (Or.inr (Or.inr (Or.inr (Or.inr ⟨by omega, rfl, rfl⟩))))
        · exact fun h => absurd h (by decide)
      · refine ⟨?_, ?_⟩
        · exact fun h => absurd h (by decide)
        · intro _
          first | exact (Or.inl ⟨by omega, rfl, rfl⟩) | exact (Or.inr (Or.inl ⟨by omega, rfl, rfl⟩)) | exact (Or.inr (Or.inr (Or.inl ⟨by omega, rfl, rfl⟩))) | exact (Or.inr (Or.inr (Or.inr (Or.inl ⟨by omega, rfl, rfl⟩)))) | exact (Or.inr (Or.inr (Or.inr (Or.inr ⟨by omega, rfl, rfl⟩))))
  · refine ⟨?_, ?_⟩
    · intro _
      first | exact (Or.inl ⟨by omega, rfl, rfl⟩) | exact (Or.inr (Or.inl ⟨by omega, rfl, rfl⟩)) | exact (Or.inr (Or.inr (Or.inl ⟨by omega, rfl, rfl⟩))) | exact (Or.inr (Or.inr (Or.inr (Or.inl ⟨by omega, rfl, rfl⟩)))) | exact (Or.inr (Or.inr (Or.inr (Or.inr ⟨by omega, rfl, rfl⟩))))
    · exact fun h => absurd h (by decide)
set_option maxRecDepth 100000 in
set_option maxHeartbeats 4000000 in
theorem am_X9_drop {σ : zS} {s : Int} (hms : zMS σ) : zAM 110 [.inr (.inr (9, 0)), .inl s] σ (fun (v : Int) (u : zS) => ((¬ (0 ≤ s ∧ s < 8)) ∧ σ = u ∧ -1000001 = v) ∨ ((0 ≤ s ∧ s < 8 ∧ σ 37 s = 0) ∧ zup σ 9 4 1 = u ∧ -1000011 = v) ∨ ((0 ≤ s ∧ s < 8 ∧ ¬ σ 37 s = 0) ∧ zup (zup σ 37 s 0) 9 4 0 = u ∧ σ 38 s = v)) := by
  refine zam (by decide) (Nat.le_of_ble_eq_true rfl) ?_
  refine zwalk zmk_110 [] 4 ?_
  show (∃ Rc : Int → zS → Prop, zAM 106 [.inl s] σ Rc ∧ ∀ (v1 : Int) (u1 : zS), zI v1 → Rc v1 u1 → ((¬ v1 = 0 → ((0 ≤ s ∧ s < (8 : Int)) ∧ ((¬ (u1 37 s) = 0 → ((0 ≤ s ∧ s < (8 : Int)) ∧ ((0 ≤ s ∧ s < (8 : Int)) ∧ (∃ Rc : Int → zS → Prop, zAM 105 [.inr (.inr (9, 0)), .inl (u1 38 s)] (zup u1 37 s (0 : Int)) Rc ∧ ∀ (v2 : Int) (u2 : zS), zI v2 → Rc v2 u2 → (((¬ (0 ≤ s ∧ s < 8)) ∧ σ = u2 ∧ -1000001 = v2) ∨ ((0 ≤ s ∧ s < 8 ∧ σ 37 s = 0) ∧ zup σ 9 4 1 = u2 ∧ -1000011 = v2) ∨ ((0 ≤ s ∧ s < 8 ∧ ¬ σ 37 s = 0) ∧ zup (zup σ 37 s 0) 9 4 0 = u2 ∧ σ 38 s = v2)))))) ∧ ((u1 37 s) = 0 → (∃ Rc : Int → zS → Prop, zAM 104 [.inr (.inr (9, 0)), .inl (1 : Int)] u1 Rc ∧ ∀ (v3 : Int) (u3 : zS), zI v3 → Rc v3 u3 → (((¬ (0 ≤ s ∧ s < 8)) ∧ σ = u3 ∧ -1000001 = v3) ∨ ((0 ≤ s ∧ s < 8 ∧ σ 37 s = 0) ∧ zup σ 9 4 1 = u3 ∧ -1000011 = v3) ∨ ((0 ≤ s ∧ s < 8 ∧ ¬ σ 37 s = 0) ∧ zup (zup σ 37 s 0) 9 4 0 = u3 ∧ σ 38 s = v3))))))) ∧ (v1 = 0 → (((¬ (0 ≤ s ∧ s < 8)) ∧ σ = u1 ∧ -1000001 = (-1000001 : Int)) ∨ ((0 ≤ s ∧ s < 8 ∧ σ 37 s = 0) ∧ zup σ 9 4 1 = u1 ∧ -1000011 = (-1000001 : Int)) ∨ ((0 ≤ s ∧ s < 8 ∧ ¬ σ 37 s = 0) ∧ zup (zup σ 37 s 0) 9 4 0 = u1 ∧ σ 38 s = (-1000001 : Int))))))
  have c0 := hms s
  refine ⟨_, am_X9_isSheet, ?_⟩
  intro v1 u1 hv1
  rintro ⟨rfl, (⟨rfl, cv1⟩ | ⟨rfl, cv1⟩)⟩
  · refine ⟨?_, ?_⟩
    · intro _
      refine ⟨by (first | omega | exact ⟨by omega, by omega⟩ | exact ⟨by omega, by omega, by omega⟩ | exact ⟨by omega, by omega, by omega, by omega, by omega⟩), ?_⟩
      refine ⟨?_, ?_⟩
      · intro h2
        refine ⟨by (first | omega | exact ⟨by omega, by omega⟩ | exact ⟨by omega, by omega, by omega⟩ | exact ⟨by omega, by omega, by omega, by omega, by omega⟩), ?_⟩
        refine ⟨by (first | omega | exact ⟨by omega, by omega⟩ | exact ⟨by omega, by omega, by omega⟩ | exact ⟨by omega, by omega, by omega, by omega, by omega⟩), ?_⟩
        refine ⟨_, am_X9_well, ?_⟩
        intro v2 u2 hv2
        rintro ⟨rfl, rfl⟩
        obtain ⟨hv2a, hv2b⟩ := hv2
        first | exact (Or.inl ⟨by omega, rfl, rfl⟩) | exact (Or.inr (Or.inl ⟨by omega, rfl, rfl⟩)) | exact (Or.inr (Or.inr ⟨by omega, rfl, rfl⟩))
      · intro h3
        refine ⟨_, am_X9_finds (by omega), ?_⟩
        intro v3 u3 hv3
        rintro ⟨rfl, rfl⟩
        obtain ⟨hv3a, hv3b⟩ := hv3
        first | exact (Or.inl ⟨by omega, rfl, rfl⟩) | exact (Or.inr (Or.inl ⟨by omega, rfl, rfl⟩)) | exact (Or.inr (Or.inr ⟨by omega, rfl, rfl⟩))
    · exact fun h => absurd h (by decide)
  · refine ⟨?_, ?_⟩
    · exact fun h => absurd h (by decide)
    · intro _
      first | exact (Or.inl ⟨by omega, rfl, rfl⟩) | exact (Or.inr (Or.inl ⟨by omega, rfl, rfl⟩)) | exact (Or.inr (Or.inr ⟨by omega, rfl, rfl⟩))
def zlanm (a x : Int) : Int := if a = 1 then zb8 x else if a = 2 then zs16 x else x
set_option maxRecDepth 100000 in
set_option maxHeartbeats 4000000 in
theorem am_X9_set {σ : zS} {s : Int} {i : Int} {x : Int} (hms : zMS σ) : zAM 108 [.inr (.inr (9, 0)), .inl s, .inl i, .inl x] σ (fun (v : Int) (u : zS) => ((¬ (0 ≤ s ∧ s < 8)) ∧ σ = u ∧ -1000001 = v) ∨ ((0 ≤ s ∧ s < 8 ∧ σ 37 s = 0) ∧ zup σ 9 4 1 = u ∧ -1000011 = v) ∨ ((0 ≤ s ∧ s < 8 ∧ ¬ σ 37 s = 0 ∧ ¬ (0 ≤ i ∧ i < σ 38 s)) ∧ zup σ 9 4 2 = u ∧ -1000012 = v) ∨ ((0 ≤ s ∧ s < 8 ∧ ¬ σ 37 s = 0 ∧ 0 ≤ i ∧ i < σ 38 s) ∧ zup (zup σ 39 (80 * s + i) (zlanm (σ 37 s) x)) 9 4 0 = u ∧ zlanm (σ 37 s) x = v)) := by
  refine zam (by decide) (Nat.le_of_ble_eq_true rfl) ?_
  refine zwalk zmk_108 [] 7 ?_
  show (∃ Rc : Int → zS → Prop, zAM 106 [.inl s] σ Rc ∧ ∀ (v1 : Int) (u1 : zS), zI v1 → Rc v1 u1 → ((¬ v1 = 0 → ((0 ≤ s ∧ s < (8 : Int)) ∧ ((¬ (u1 37 s) = 0 → ((0 ≤ s ∧ s < (8 : Int)) ∧ (zI ((u1 38 s) - (1 : Int)) ∧ (∃ Rc : Int → zS → Prop, zAM 103 [.inr (.inl i), .inr (.inl (0 : Int)), .inr (.inl ((u1 38 s) - (1 : Int)))] u1 Rc ∧ ∀ (v2 : Int) (u2 : zS), zI v2 → Rc v2 u2 → ((¬ v2 = 0 → ((0 ≤ s ∧ s < (8 : Int)) ∧ ((¬ (u2 37 s) = (1 : Int) → ((0 ≤ s ∧ s < (8 : Int)) ∧ ((¬ (u2 37 s) = (2 : Int) → (zI ((80 : Int) * s) ∧ (zI (((80 : Int) * s) + i) ∧ ((0 ≤ (((80 : Int) * s) + i) ∧ (((80 : Int) * s) + i) < (640 : Int)) ∧ (∃ Rc : Int → zS → Prop, zAM 105 [.inr (.inr (9, 0)), .inl x] (zup u2 39 (((80 : Int) * s) + i) x) Rc ∧ ∀ (v3 : Int) (u3 : zS), zI v3 → Rc v3 u3 → (((¬ (0 ≤ s ∧ s < 8)) ∧ σ = u3 ∧ -1000001 = v3) ∨ ((0 ≤ s ∧ s < 8 ∧ σ 37 s = 0) ∧ zup σ 9 4 1 = u3 ∧ -1000011 = v3) ∨ ((0 ≤ s ∧ s < 8 ∧ ¬ σ 37 s = 0 ∧ ¬ (0 ≤ i ∧ i < σ 38 s)) ∧ zup σ 9 4 2 = u3 ∧ -1000012 = v3) ∨ ((0 ≤ s ∧ s < 8 ∧ ¬ σ 37 s = 0 ∧ 0 ≤ i ∧ i < σ 38 s) ∧ zup (zup σ 39 (80 * s + i) (zlanm (σ 37 s) x)) 9 4 0 = u3 ∧ zlanm (σ 37 s) x = v3))))))) ∧ ((u2 37 s) = (2 : Int) → (zI ((80 : Int) * s) ∧ (zI (((80 : Int) * s) + i) ∧ ((0 ≤ (((80 : Int) * s) + i) ∧ (((80 : Int) * s) + i) < (640 : Int)) ∧ (∃ Rc : Int → zS → Prop, zAM 105 [.inr (.inr (9, 0)), .inl (Int32.ofInt x).toInt16.toInt32.toInt] (zup u2 39 (((80 : Int) * s) + i) (Int32.ofInt x).toInt16.toInt32.toInt) Rc ∧ ∀ (v4 : Int) (u4 : zS), zI v4 → Rc v4 u4 → (((¬ (0 ≤ s ∧ s < 8)) ∧ σ = u4 ∧ -1000001 = v4) ∨ ((0 ≤ s ∧ s < 8 ∧ σ 37 s = 0) ∧ zup σ 9 4 1 = u4 ∧ -1000011 = v4) ∨ ((0 ≤ s ∧ s < 8 ∧ ¬ σ 37 s = 0 ∧ ¬ (0 ≤ i ∧ i < σ 38 s)) ∧ zup σ 9 4 2 = u4 ∧ -1000012 = v4) ∨ ((0 ≤ s ∧ s < 8 ∧ ¬ σ 37 s = 0 ∧ 0 ≤ i ∧ i < σ 38 s) ∧ zup (zup σ 39 (80 * s + i) (zlanm (σ 37 s) x)) 9 4 0 = u4 ∧ zlanm (σ 37 s) x = v4)))))))))) ∧ ((u2 37 s) = (1 : Int) → (zI ((80 : Int) * s) ∧ (zI (((80 : Int) * s) + i) ∧ ((0 ≤ (((80 : Int) * s) + i) ∧ (((80 : Int) * s) + i) < (640 : Int)) ∧ (∃ Rc : Int → zS → Prop, zAM 105 [.inr (.inr (9, 0)), .inl (Int32.ofInt x).toInt8.toInt32.toInt] (zup u2 39 (((80 : Int) * s) + i) (Int32.ofInt x).toInt8.toInt32.toInt) Rc ∧ ∀ (v5 : Int) (u5 : zS), zI v5 → Rc v5 u5 → (((¬ (0 ≤ s ∧ s < 8)) ∧ σ = u5 ∧ -1000001 = v5) ∨ ((0 ≤ s ∧ s < 8 ∧ σ 37 s = 0) ∧ zup σ 9 4 1 = u5 ∧ -1000011 = v5) ∨ ((0 ≤ s ∧ s < 8 ∧ ¬ σ 37 s = 0 ∧ ¬ (0 ≤ i ∧ i < σ 38 s)) ∧ zup σ 9 4 2 = u5 ∧ -1000012 = v5) ∨ ((0 ≤ s ∧ s < 8 ∧ ¬ σ 37 s = 0 ∧ 0 ≤ i ∧ i < σ 38 s) ∧ zup (zup σ 39 (80 * s + i) (zlanm (σ 37 s) x)) 9 4 0 = u5 ∧ zlanm (σ 37 s) x = v5)))))))))) ∧ (v2 = 0 → (∃ Rc : Int → zS → Prop, zAM 104 [.inr (.inr (9, 0)), .inl (2 : Int)] u2 Rc ∧ ∀ (v6 : Int) (u6 : zS), zI v6 → Rc v6 u6 → (((¬ (0 ≤ s ∧ s < 8)) ∧ σ = u6 ∧ -1000001 = v6) ∨ ((0 ≤ s ∧ s < 8 ∧ σ 37 s = 0) ∧ zup σ 9 4 1 = u6 ∧ -1000011 = v6) ∨ ((0 ≤ s ∧ s < 8 ∧ ¬ σ 37 s = 0 ∧ ¬ (0 ≤ i ∧ i < σ 38 s)) ∧ zup σ 9 4 2 = u6 ∧ -1000012 = v6) ∨ ((0 ≤ s ∧ s < 8 ∧ ¬ σ 37 s = 0 ∧ 0 ≤ i ∧ i < σ 38 s) ∧ zup (zup σ 39 (80 * s + i) (zlanm (σ 37 s) x)) 9 4 0 = u6 ∧ zlanm (σ 37 s) x = v6))))))))) ∧ ((u1 37 s) = 0 → (∃ Rc : Int → zS → Prop, zAM 104 [.inr (.inr (9, 0)), .inl (1 : Int)] u1 Rc ∧ ∀ (v7 : Int) (u7 : zS), zI v7 → Rc v7 u7 → (((¬ (0 ≤ s ∧ s < 8)) ∧ σ = u7 ∧ -1000001 = v7) ∨ ((0 ≤ s ∧ s < 8 ∧ σ 37 s = 0) ∧ zup σ 9 4 1 = u7 ∧ -1000011 = v7) ∨ ((0 ≤ s ∧ s < 8 ∧ ¬ σ 37 s = 0 ∧ ¬ (0 ≤ i ∧ i < σ 38 s)) ∧ zup σ 9 4 2 = u7 ∧ -1000012 = v7) ∨ ((0 ≤ s ∧ s < 8 ∧ ¬ σ 37 s = 0 ∧ 0 ≤ i ∧ i < σ 38 s) ∧ zup (zup σ 39 (80 * s + i) (zlanm (σ 37 s) x)) 9 4 0 = u7 ∧ zlanm (σ 37 s) x = v7))))))) ∧ (v1 = 0 → (((¬ (0 ≤ s ∧ s < 8)) ∧ σ = u1 ∧ -1000001 = (-1000001 : Int)) ∨ ((0 ≤ s ∧ s < 8 ∧ σ 37 s = 0) ∧ zup σ 9 4 1 = u1 ∧ -1000011 = (-1000001 : Int)) ∨ ((0 ≤ s ∧ s < 8 ∧ ¬ σ 37 s = 0 ∧ ¬ (0 ≤ i ∧ i < σ 38 s)) ∧ zup σ 9 4 2 = u1 ∧ -1000012 = (-1000001 : Int)) ∨ ((0 ≤ s ∧ s < 8 ∧ ¬ σ 37 s = 0 ∧ 0 ≤ i ∧ i < σ 38 s) ∧ zup (zup σ 39 (80 * s + i) (zlanm (σ 37 s) x)) 9 4 0 = u1 ∧ zlanm (σ 37 s) x = (-1000001 : Int))))))
  have c0 := hms s
  refine ⟨_, am_X9_isSheet, ?_⟩
  intro v1 u1 hv1
  rintro ⟨rfl, (⟨rfl, cv1⟩ | ⟨rfl, cv1⟩)⟩
  · refine ⟨?_, ?_⟩
    · intro _
      refine ⟨by (first | omega | exact ⟨by omega, by omega⟩ | exact ⟨by omega, by omega, by omega⟩ | exact ⟨by omega, by omega, by omega, by omega, by omega⟩), ?_⟩
      refine ⟨?_, ?_⟩
      · intro h2
        refine ⟨by (first | omega | exact ⟨by omega, by omega⟩ | exact ⟨by omega, by omega, by omega⟩ | exact ⟨by omega, by omega, by omega, by omega, by omega⟩), ?_⟩
        refine ⟨by (exact ⟨by omega, by omega⟩), ?_⟩
        refine ⟨_, am_X9_in, ?_⟩
        intro v2 u2 hv2
        rintro ⟨rfl, (⟨rfl, cv2⟩ | ⟨rfl, cv2⟩)⟩
        · refine ⟨?_, ?_⟩
          · intro _
            refine ⟨by (first | omega | exact ⟨by omega, by omega⟩ | exact ⟨by omega, by omega, by omega⟩ | exact ⟨by omega, by omega, by omega, by omega, by omega⟩), ?_⟩
            refine ⟨?_, ?_⟩
            · intro h4
              refine ⟨by (first | omega | exact ⟨by omega, by omega⟩ | exact ⟨by omega, by omega, by omega⟩ | exact ⟨by omega, by omega, by omega, by omega, by omega⟩), ?_⟩
              refine ⟨?_, ?_⟩
              · intro h5
                refine ⟨by (exact ⟨by omega, by omega⟩), ?_⟩
                refine ⟨by (exact ⟨by omega, by omega⟩), ?_⟩
                refine ⟨by (first | omega | exact ⟨by omega, by omega⟩ | exact ⟨by omega, by omega, by omega⟩ | exact ⟨by omega, by omega, by omega, by omega, by omega⟩), ?_⟩
                refine ⟨_, am_X9_well, ?_⟩
                intro v3 u3 hv3
                rintro ⟨rfl, rfl⟩
                obtain ⟨hv3a, hv3b⟩ := hv3
                first | exact Or.inl ⟨by omega, rfl, rfl⟩ | exact Or.inr (Or.inl ⟨by omega, rfl, rfl⟩) | exact Or.inr (Or.inr (Or.inl ⟨by omega, rfl, rfl⟩)) | exact Or.inr (Or.inr (Or.inr ⟨by omega, by (unfold zlanm; first | (rw [if_pos (by assumption)] <;> rfl) | (rw [if_neg (by assumption), if_pos (by assumption)] <;> rfl) | (rw [if_neg (by assumption), if_neg (by assumption)] <;> rfl)), by (unfold zlanm; first | (rw [if_pos (by assumption)] <;> rfl) | (rw [if_neg (by assumption), if_pos (by assumption)] <;> rfl) | (rw [if_neg (by assumption), if_neg (by assumption)] <;> rfl))⟩))
              · intro h6
                refine ⟨by (exact ⟨by omega, by omega⟩), ?_⟩
                refine ⟨by (exact ⟨by omega, by omega⟩), ?_⟩
                refine ⟨by (first | omega | exact ⟨by omega, by omega⟩ | exact ⟨by omega, by omega, by omega⟩ | exact ⟨by omega, by omega, by omega, by omega, by omega⟩), ?_⟩
                refine ⟨_, am_X9_well, ?_⟩
                intro v4 u4 hv4
                rintro ⟨rfl, rfl⟩
                obtain ⟨hv4a, hv4b⟩ := hv4
                first | exact Or.inl ⟨by omega, rfl, rfl⟩ | exact Or.inr (Or.inl ⟨by omega, rfl, rfl⟩) | exact Or.inr (Or.inr (Or.inl ⟨by omega, rfl, rfl⟩)) | exact Or.inr (Or.inr (Or.inr ⟨by omega, by (unfold zlanm; first | (rw [if_pos (by assumption)] <;> rfl) | (rw [if_neg (by assumption), if_pos (by assumption)] <;> rfl) | (rw [if_neg (by assumption), if_neg (by assumption)] <;> rfl)), by (unfold zlanm; first | (rw [if_pos (by assumption)] <;> rfl) | (rw [if_neg (by assumption), if_pos (by assumption)] <;> rfl) | (rw [if_neg (by assumption), if_neg (by assumption)] <;> rfl))⟩))
            · intro h7
              refine ⟨by (exact ⟨by omega, by omega⟩), ?_⟩
              refine ⟨by (exact ⟨by omega, by omega⟩), ?_⟩
              refine ⟨by (first | omega | exact ⟨by omega, by omega⟩ | exact ⟨by omega, by omega, by omega⟩ | exact ⟨by omega, by omega, by omega, by omega, by omega⟩), ?_⟩
              refine ⟨_, am_X9_well, ?_⟩
              intro v5 u5 hv5
              rintro ⟨rfl, rfl⟩
              obtain ⟨hv5a, hv5b⟩ := hv5
              first | exact Or.inl ⟨by omega, rfl, rfl⟩ | exact Or.inr (Or.inl ⟨by omega, rfl, rfl⟩) | exact Or.inr (Or.inr (Or.inl ⟨by omega, rfl, rfl⟩)) | exact Or.inr (Or.inr (Or.inr ⟨by omega, by (unfold zlanm; first | (rw [if_pos (by assumption)] <;> rfl) | (rw [if_neg (by assumption), if_pos (by assumption)] <;> rfl) | (rw [if_neg (by assumption), if_neg (by assumption)] <;> rfl)), by (unfold zlanm; first | (rw [if_pos (by assumption)] <;> rfl) | (rw [if_neg (by assumption), if_pos (by assumption)] <;> rfl) | (rw [if_neg (by assumption), if_neg (by assumption)] <;> rfl))⟩))
          · exact fun h => absurd h (by decide)
        · refine ⟨?_, ?_⟩
          · exact fun h => absurd h (by decide)
          · intro _
            refine ⟨_, am_X9_finds (by omega), ?_⟩
            intro v6 u6 hv6
            rintro ⟨rfl, rfl⟩
            obtain ⟨hv6a, hv6b⟩ := hv6
            first | exact Or.inl ⟨by omega, rfl, rfl⟩ | exact Or.inr (Or.inl ⟨by omega, rfl, rfl⟩) | exact Or.inr (Or.inr (Or.inl ⟨by omega, rfl, rfl⟩)) | exact Or.inr (Or.inr (Or.inr ⟨by omega, by (unfold zlanm; first | (rw [if_pos (by assumption)] <;> rfl) | (rw [if_neg (by assumption), if_pos (by assumption)] <;> rfl) | (rw [if_neg (by assumption), if_neg (by assumption)] <;> rfl)), by (unfold zlanm; first | (rw [if_pos (by assumption)] <;> rfl) | (rw [if_neg (by assumption), if_pos (by assumption)] <;> rfl) | (rw [if_neg (by assumption), if_neg (by assumption)] <;> rfl))⟩))
      · intro h9
        refine ⟨_, am_X9_finds (by omega), ?_⟩
        intro v7 u7 hv7
        rintro ⟨rfl, rfl⟩
        obtain ⟨hv7a, hv7b⟩ := hv7
        first | exact Or.inl ⟨by omega, rfl, rfl⟩ | exact Or.inr (Or.inl ⟨by omega, rfl, rfl⟩) | exact Or.inr (Or.inr (Or.inl ⟨by omega, rfl, rfl⟩)) | exact Or.inr (Or.inr (Or.inr ⟨by omega, by (unfold zlanm; first | (rw [if_pos (by assumption)] <;> rfl) | (rw [if_neg (by assumption), if_pos (by assumption)] <;> rfl) | (rw [if_neg (by assumption), if_neg (by assumption)] <;> rfl)), by (unfold zlanm; first | (rw [if_pos (by assumption)] <;> rfl) | (rw [if_neg (by assumption), if_pos (by assumption)] <;> rfl) | (rw [if_neg (by assumption), if_neg (by assumption)] <;> rfl))⟩))
    · exact fun h => absurd h (by decide)
  · refine ⟨?_, ?_⟩
    · exact fun h => absurd h (by decide)
    · intro _
      first | exact Or.inl ⟨by omega, rfl, rfl⟩ | exact Or.inr (Or.inl ⟨by omega, rfl, rfl⟩) | exact Or.inr (Or.inr (Or.inl ⟨by omega, rfl, rfl⟩)) | exact Or.inr (Or.inr (Or.inr ⟨by omega, by (unfold zlanm; first | (rw [if_pos (by assumption)] <;> rfl) | (rw [if_neg (by assumption), if_pos (by assumption)] <;> rfl) | (rw [if_neg (by assumption), if_neg (by assumption)] <;> rfl)), by (unfold zlanm; first | (rw [if_pos (by assumption)] <;> rfl) | (rw [if_neg (by assumption), if_pos (by assumption)] <;> rfl) | (rw [if_neg (by assumption), if_neg (by assumption)] <;> rfl))⟩))
