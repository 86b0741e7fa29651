set_option maxRecDepth 100000 in
set_option maxHeartbeats 4000000 in
theorem am_X8_gap {σ : zS} {x : Int} {m : Nat} (hm : σ 2 2 = (m : Int)) (hm40 : m ≤ 40) (hw : ∀ j : Int, 0 ≤ j → j < m → 0 ≤ σ 15 j ∧ σ 15 j ≤ 2000) : zAM 55 [.inr (.inr (0, 0)), .inl x] σ (fun (v : Int) (u : zS) => (¬ (1 ≤ x ∧ x ≤ 100) ∧ σ = u ∧ -1000001 = v) ∨ ((1 ≤ x ∧ x ≤ 100) ∧ σ 2 3 = v ∧ zfr [0, 2, 17, 18, 19, 20, 21] σ u ∧ (∀ j : Int, ¬ j = 3 → ¬ j = 7 → ¬ j = 10 → ¬ j = 11 → u 2 j = σ 2 j) ∧ u 2 3 = x ∧ (∀ j : Int, ¬ j = 4 → u 0 j = σ 0 j) ∧ u 0 4 = -1 ∧ zLC (σ 15) (σ 16) x m u)) := by
  refine zam (by decide) (Nat.le_of_ble_eq_true rfl) ?_
  refine zwalk zmk_55 [] 3 ?_
  show ((x < (1 : Int) → ((¬ (1 ≤ x ∧ x ≤ 100) ∧ σ = σ ∧ -1000001 = (-1000001 : Int)) ∨ ((1 ≤ x ∧ x ≤ 100) ∧ σ 2 3 = (-1000001 : Int) ∧ zfr [0, 2, 17, 18, 19, 20, 21] σ σ ∧ (∀ j : Int, ¬ j = 3 → ¬ j = 7 → ¬ j = 10 → ¬ j = 11 → σ 2 j = σ 2 j) ∧ σ 2 3 = x ∧ (∀ j : Int, ¬ j = 4 → σ 0 j = σ 0 j) ∧ σ 0 4 = -1 ∧ zLC (σ 15) (σ 16) x m σ))) ∧ ((1 : Int) ≤ x → ((x ≤ (100 : Int) → (∃ Rc : Int → zS → Prop, zAM 15 [.inr (.inr (2, 0))] (zup σ 2 (3 : Int) x) Rc ∧ ∀ (u1 : zS), Rc 0 u1 → ((¬ (1 ≤ x ∧ x ≤ 100) ∧ σ = (zup u1 0 (4 : Int) (-1 : Int)) ∧ -1000001 = (σ 2 (3 : Int))) ∨ ((1 ≤ x ∧ x ≤ 100) ∧ σ 2 3 = (σ 2 (3 : Int)) ∧ zfr [0, 2, 17, 18, 19, 20, 21] σ (zup u1 0 (4 : Int) (-1 : Int)) ∧ (∀ j : Int, ¬ j = 3 → ¬ j = 7 → ¬ j = 10 → ¬ j = 11 → (zup u1 0 (4 : Int) (-1 : Int)) 2 j = σ 2 j) ∧ (zup u1 0 (4 : Int) (-1 : Int)) 2 3 = x ∧ (∀ j : Int, ¬ j = 4 → (zup u1 0 (4 : Int) (-1 : Int)) 0 j = σ 0 j) ∧ (zup u1 0 (4 : Int) (-1 : Int)) 0 4 = -1 ∧ zLC (σ 15) (σ 16) x m (zup u1 0 (4 : Int) (-1 : Int)))))) ∧ ((100 : Int) < x → ((¬ (1 ≤ x ∧ x ≤ 100) ∧ σ = σ ∧ -1000001 = (-1000001 : Int)) ∨ ((1 ≤ x ∧ x ≤ 100) ∧ σ 2 3 = (-1000001 : Int) ∧ zfr [0, 2, 17, 18, 19, 20, 21] σ σ ∧ (∀ j : Int, ¬ j = 3 → ¬ j = 7 → ¬ j = 10 → ¬ j = 11 → σ 2 j = σ 2 j) ∧ σ 2 3 = x ∧ (∀ j : Int, ¬ j = 4 → σ 0 j = σ 0 j) ∧ σ 0 4 = -1 ∧ zLC (σ 15) (σ 16) x m σ))))))
  refine ⟨?_, ?_⟩
  · intro h1
    exact Or.inl ⟨by omega, rfl, rfl⟩
  · intro h2
    refine ⟨?_, ?_⟩
    · intro h3
      refine ⟨_, am_X2_part (n := m) (hm) (hm40) (hw), ?_⟩
      intro u1
      intro kv1
      obtain ⟨f1, a1, a2⟩ := kv1
      refine Or.inr ⟨by omega, rfl, fun k hk => ?_, fun j j1 j2 j3 j4 => ?_, ?_, fun j hj => ?_, ?_, ?_⟩
      · have hk1 : k ∉ [2, 17, 18, 19, 20, 21] := fun q => hk (by simp at q ⊢; omega)
        have hk2 : ¬ k = 2 := fun q => hk (by simp [q])
        have hk3 : ¬ k = 0 := fun q => hk (by simp [q])
        rw [zup_ne hk3, f1 k hk1, zup_ne hk2]
      · rw [zup_ne (by decide), a1 j j2 j3 j4, zup_at, if_neg j1]
      · rw [zup_ne (by decide), a1 3 (by decide) (by decide) (by decide), zup_at]; exact if_pos rfl
      · rw [zup_at, if_neg hj, f1 0 (by decide), zup_ne (by decide)]
      · rw [zup_at]; exact if_pos rfl
      · exact a2
    · intro h4
      exact Or.inl ⟨by omega, rfl, rfl⟩
set_option maxRecDepth 100000 in
set_option maxHeartbeats 4000000 in
theorem am_X8_line {σ : zS} {s : Int} {i : Int} {c : Int} (hcs : zCS σ) : zAM 54 [.inr (.inr (0, 0)), .inl s, .inl i, .inl c] σ (fun (v : Int) (u : zS) => ((¬ (0 ≤ s ∧ s < 8) ∨ c < 1 ∨ 40 < c) ∧ σ = u ∧ -1000001 = v) ∨ (((0 ≤ s ∧ s < 8) ∧ 1 ≤ c ∧ c ≤ 40 ∧ σ 11 s = 0) ∧ zup σ 0 11 1 = u ∧ -1000011 = v) ∨ (((0 ≤ s ∧ s < 8) ∧ 1 ≤ c ∧ c ≤ 40 ∧ σ 11 s = 1 ∧ ¬ (0 ≤ i ∧ i + 2 * c ≤ σ 13 s)) ∧ zup σ 0 11 2 = u ∧ -1000012 = v) ∨ (((0 ≤ s ∧ s < 8) ∧ 1 ≤ c ∧ c ≤ 40 ∧ σ 11 s = 1 ∧ 0 ≤ i ∧ i + 2 * c ≤ σ 13 s) ∧ ¬ zPOs σ (80 * s) i c ∧ σ = u ∧ -1000001 = v) ∨ (((0 ≤ s ∧ s < 8) ∧ 1 ≤ c ∧ c ≤ 40 ∧ σ 11 s = 1 ∧ 0 ≤ i ∧ i + 2 * c ≤ σ 13 s) ∧ zPOs σ (80 * s) i c ∧ u 2 10 = v ∧ zfr [0, 2, 15, 16, 17, 18, 19, 20, 21] σ u ∧ (∀ j : Int, ¬ j = 2 → ¬ j = 7 → ¬ j = 10 → ¬ j = 11 → u 2 j = σ 2 j) ∧ u 2 2 = c ∧ (∀ j : Int, ¬ j = 4 → ¬ j = 11 → u 0 j = σ 0 j) ∧ u 0 4 = -1 ∧ u 0 11 = 0 ∧ (∀ j : Int, 0 ≤ j → j < c → u 15 j = zrX σ (80 * s) i j ∧ u 16 j = zrS σ (80 * s) i j) ∧ zLC (u 15) (u 16) (σ 2 3) c.toNat u)) := by
  refine zam (by decide) (Nat.le_of_ble_eq_true rfl) ?_
  refine zwalk zmk_54 [] 6 ?_
  show (∃ Rc : Int → zS → Prop, zAM 78 [.inl s] σ Rc ∧ ∀ (v1 : Int) (u1 : zS), zI v1 → Rc v1 u1 → ((v1 = 0 → (((¬ (0 ≤ s ∧ s < 8) ∨ c < 1 ∨ 40 < c) ∧ σ = u1 ∧ -1000001 = (-1000001 : Int)) ∨ (((0 ≤ s ∧ s < 8) ∧ 1 ≤ c ∧ c ≤ 40 ∧ σ 11 s = 0) ∧ zup σ 0 11 1 = u1 ∧ -1000011 = (-1000001 : Int)) ∨ (((0 ≤ s ∧ s < 8) ∧ 1 ≤ c ∧ c ≤ 40 ∧ σ 11 s = 1 ∧ ¬ (0 ≤ i ∧ i + 2 * c ≤ σ 13 s)) ∧ zup σ 0 11 2 = u1 ∧ -1000012 = (-1000001 : Int)) ∨ (((0 ≤ s ∧ s < 8) ∧ 1 ≤ c ∧ c ≤ 40 ∧ σ 11 s = 1 ∧ 0 ≤ i ∧ i + 2 * c ≤ σ 13 s) ∧ ¬ zPOs σ (80 * s) i c ∧ σ = u1 ∧ -1000001 = (-1000001 : Int)) ∨ (((0 ≤ s ∧ s < 8) ∧ 1 ≤ c ∧ c ≤ 40 ∧ σ 11 s = 1 ∧ 0 ≤ i ∧ i + 2 * c ≤ σ 13 s) ∧ zPOs σ (80 * s) i c ∧ u1 2 10 = (-1000001 : Int) ∧ zfr [0, 2, 15, 16, 17, 18, 19, 20, 21] σ u1 ∧ (∀ j : Int, ¬ j = 2 → ¬ j = 7 → ¬ j = 10 → ¬ j = 11 → u1 2 j = σ 2 j) ∧ u1 2 2 = c ∧ (∀ j : Int, ¬ j = 4 → ¬ j = 11 → u1 0 j = σ 0 j) ∧ u1 0 4 = -1 ∧ u1 0 11 = 0 ∧ (∀ j : Int, 0 ≤ j → j < c → u1 15 j = zrX σ (80 * s) i j ∧ u1 16 j = zrS σ (80 * s) i j) ∧ zLC (u1 15) (u1 16) (σ 2 3) c.toNat u1))) ∧ (¬ v1 = 0 → ((c < (1 : Int) → (((¬ (0 ≤ s ∧ s < 8) ∨ c < 1 ∨ 40 < c) ∧ σ = u1 ∧ -1000001 = (-1000001 : Int)) ∨ (((0 ≤ s ∧ s < 8) ∧ 1 ≤ c ∧ c ≤ 40 ∧ σ 11 s = 0) ∧ zup σ 0 11 1 = u1 ∧ -1000011 = (-1000001 : Int)) ∨ (((0 ≤ s ∧ s < 8) ∧ 1 ≤ c ∧ c ≤ 40 ∧ σ 11 s = 1 ∧ ¬ (0 ≤ i ∧ i + 2 * c ≤ σ 13 s)) ∧ zup σ 0 11 2 = u1 ∧ -1000012 = (-1000001 : Int)) ∨ (((0 ≤ s ∧ s < 8) ∧ 1 ≤ c ∧ c ≤ 40 ∧ σ 11 s = 1 ∧ 0 ≤ i ∧ i + 2 * c ≤ σ 13 s) ∧ ¬ zPOs σ (80 * s) i c ∧ σ = u1 ∧ -1000001 = (-1000001 : Int)) ∨ (((0 ≤ s ∧ s < 8) ∧ 1 ≤ c ∧ c ≤ 40 ∧ σ 11 s = 1 ∧ 0 ≤ i ∧ i + 2 * c ≤ σ 13 s) ∧ zPOs σ (80 * s) i c ∧ u1 2 10 = (-1000001 : Int) ∧ zfr [0, 2, 15, 16, 17, 18, 19, 20, 21] σ u1 ∧ (∀ j : Int, ¬ j = 2 → ¬ j = 7 → ¬ j = 10 → ¬ j = 11 → u1 2 j = σ 2 j) ∧ u1 2 2 = c ∧ (∀ j : Int, ¬ j = 4 → ¬ j = 11 → u1 0 j = σ 0 j) ∧ u1 0 4 = -1 ∧ u1 0 11 = 0 ∧ (∀ j : Int, 0 ≤ j → j < c → u1 15 j = zrX σ (80 * s) i j ∧ u1 16 j = zrS σ (80 * s) i j) ∧ zLC (u1 15) (u1 16) (σ 2 3) c.toNat u1))) ∧ ((1 : Int) ≤ c → ((c ≤ (40 : Int) → ((0 ≤ s ∧ s < (8 : Int)) ∧ ((¬ (u1 11 s) = 0 → (zI ((2 : Int) * c) ∧ (∃ Rc : Int → zS → Prop, zAM 40 [.inr (.inr (1, 0)), .inl s, .inl i, .inl ((2 : Int) * c)] u1 Rc ∧ ∀ (v2 : Int) (u2 : zS), zI v2 → Rc v2 u2 → ((¬ v2 = 0 → (∃ Rc : Int → zS → Prop, zAM 42 [.inr (.inr (1, 0)), .inl s, .inl i, .inl c] u2 Rc ∧ ∀ (v3 : Int) (u3 : zS), zI v3 → Rc v3 u3 → ((¬ v3 = 0 → ((0 ≤ s ∧ s < 8) ∧ (∃ Rc : Int → zS → Prop, zAM 14 [.inr (.inr (2, 0)), .inr (.inr (65, (80 * s))), .inl i, .inl c] u3 Rc ∧ ∀ (u4 : zS), Rc 0 u4 → (∃ Rc : Int → zS → Prop, zAM 77 [.inr (.inr (0, 0)), .inl (u4 2 (10 : Int))] (zup u4 0 (4 : Int) (-1 : Int)) Rc ∧ ∀ (v5 : Int) (u5 : zS), zI v5 → Rc v5 u5 → (((¬ (0 ≤ s ∧ s < 8) ∨ c < 1 ∨ 40 < c) ∧ σ = u5 ∧ -1000001 = v5) ∨ (((0 ≤ s ∧ s < 8) ∧ 1 ≤ c ∧ c ≤ 40 ∧ σ 11 s = 0) ∧ zup σ 0 11 1 = u5 ∧ -1000011 = v5) ∨ (((0 ≤ s ∧ s < 8) ∧ 1 ≤ c ∧ c ≤ 40 ∧ σ 11 s = 1 ∧ ¬ (0 ≤ i ∧ i + 2 * c ≤ σ 13 s)) ∧ zup σ 0 11 2 = u5 ∧ -1000012 = v5) ∨ (((0 ≤ s ∧ s < 8) ∧ 1 ≤ c ∧ c ≤ 40 ∧ σ 11 s = 1 ∧ 0 ≤ i ∧ i + 2 * c ≤ σ 13 s) ∧ ¬ zPOs σ (80 * s) i c ∧ σ = u5 ∧ -1000001 = v5) ∨ (((0 ≤ s ∧ s < 8) ∧ 1 ≤ c ∧ c ≤ 40 ∧ σ 11 s = 1 ∧ 0 ≤ i ∧ i + 2 * c ≤ σ 13 s) ∧ zPOs σ (80 * s) i c ∧ u5 2 10 = v5 ∧ zfr [0, 2, 15, 16, 17, 18, 19, 20, 21] σ u5 ∧ (∀ j : Int, ¬ j = 2 → ¬ j = 7 → ¬ j = 10 → ¬ j = 11 → u5 2 j = σ 2 j) ∧ u5 2 2 = c ∧ (∀ j : Int, ¬ j = 4 → ¬ j = 11 → u5 0 j = σ 0 j) ∧ u5 0 4 = -1 ∧ u5 0 11 = 0 ∧ (∀ j : Int, 0 ≤ j → j < c → u5 15 j = zrX σ (80 * s) i j ∧ u5 16 j = zrS σ (80 * s) i j) ∧ zLC (u5 15) (u5 16) (σ 2 3) c.toNat u5)))))) ∧ (v3 = 0 → (((¬ (0 ≤ s ∧ s < 8) ∨ c < 1 ∨ 40 < c) ∧ σ = u3 ∧ -1000001 = (-1000001 : Int)) ∨ (((0 ≤ s ∧ s < 8) ∧ 1 ≤ c ∧ c ≤ 40 ∧ σ 11 s = 0) ∧ zup σ 0 11 1 = u3 ∧ -1000011 = (-1000001 : Int)) ∨ (((0 ≤ s ∧ s < 8) ∧ 1 ≤ c ∧ c ≤ 40 ∧ σ 11 s = 1 ∧ ¬ (0 ≤ i ∧ i + 2 * c ≤ σ 13 s)) ∧ zup σ 0 11 2 = u3 ∧ -1000012 = (-1000001 : Int)) ∨ (((0 ≤ s ∧ s < 8) ∧ 1 ≤ c ∧ c ≤ 40 ∧ σ 11 s = 1 ∧ 0 ≤ i ∧ i + 2 * c ≤ σ 13 s) ∧ ¬ zPOs σ (80 * s) i c ∧ σ = u3 ∧ -1000001 = (-1000001 : Int)) ∨ (((0 ≤ s ∧ s < 8) ∧ 1 ≤ c ∧ c ≤ 40 ∧ σ 11 s = 1 ∧ 0 ≤ i ∧ i + 2 * c ≤ σ 13 s) ∧ zPOs σ (80 * s) i c ∧ u3 2 10 = (-1000001 : Int) ∧ zfr [0, 2, 15, 16, 17, 18, 19, 20, 21] σ u3 ∧ (∀ j : Int, ¬ j = 2 → ¬ j = 7 → ¬ j = 10 → ¬ j = 11 → u3 2 j = σ 2 j) ∧ u3 2 2 = c ∧ (∀ j : Int, ¬ j = 4 → ¬ j = 11 → u3 0 j = σ 0 j) ∧ u3 0 4 = -1 ∧ u3 0 11 = 0 ∧ (∀ j : Int, 0 ≤ j → j < c → u3 15 j = zrX σ (80 * s) i j ∧ u3 16 j = zrS σ (80 * s) i j) ∧ zLC (u3 15) (u3 16) (σ 2 3) c.toNat u3)))))) ∧ (v2 = 0 → (∃ Rc : Int → zS → Prop, zAM 76 [.inr (.inr (0, 0)), .inl (2 : Int)] u2 Rc ∧ ∀ (v6 : Int) (u6 : zS), zI v6 → Rc v6 u6 → (((¬ (0 ≤ s ∧ s < 8) ∨ c < 1 ∨ 40 < c) ∧ σ = u6 ∧ -1000001 = v6) ∨ (((0 ≤ s ∧ s < 8) ∧ 1 ≤ c ∧ c ≤ 40 ∧ σ 11 s = 0) ∧ zup σ 0 11 1 = u6 ∧ -1000011 = v6) ∨ (((0 ≤ s ∧ s < 8) ∧ 1 ≤ c ∧ c ≤ 40 ∧ σ 11 s = 1 ∧ ¬ (0 ≤ i ∧ i + 2 * c ≤ σ 13 s)) ∧ zup σ 0 11 2 = u6 ∧ -1000012 = v6) ∨ (((0 ≤ s ∧ s < 8) ∧ 1 ≤ c ∧ c ≤ 40 ∧ σ 11 s = 1 ∧ 0 ≤ i ∧ i + 2 * c ≤ σ 13 s) ∧ ¬ zPOs σ (80 * s) i c ∧ σ = u6 ∧ -1000001 = v6) ∨ (((0 ≤ s ∧ s < 8) ∧ 1 ≤ c ∧ c ≤ 40 ∧ σ 11 s = 1 ∧ 0 ≤ i ∧ i + 2 * c ≤ σ 13 s) ∧ zPOs σ (80 * s) i c ∧ u6 2 10 = v6 ∧ zfr [0, 2, 15, 16, 17, 18, 19, 20, 21] σ u6 ∧ (∀ j : Int, ¬ j = 2 → ¬ j = 7 → ¬ j = 10 → ¬ j = 11 → u6 2 j = σ 2 j) ∧ u6 2 2 = c ∧ (∀ j : Int, ¬ j = 4 → ¬ j = 11 → u6 0 j = σ 0 j) ∧ u6 0 4 = -1 ∧ u6 0 11 = 0 ∧ (∀ j : Int, 0 ≤ j → j < c → u6 15 j = zrX σ (80 * s) i j ∧ u6 16 j = zrS σ (80 * s) i j) ∧ zLC (u6 15) (u6 16) (σ 2 3) c.toNat u6)))))))) ∧ ((u1 11 s) = 0 → (∃ Rc : Int → zS → Prop, zAM 76 [.inr (.inr (0, 0)), .inl (1 : Int)] u1 Rc ∧ ∀ (v7 : Int) (u7 : zS), zI v7 → Rc v7 u7 → (((¬ (0 ≤ s ∧ s < 8) ∨ c < 1 ∨ 40 < c) ∧ σ = u7 ∧ -1000001 = v7) ∨ (((0 ≤ s ∧ s < 8) ∧ 1 ≤ c ∧ c ≤ 40 ∧ σ 11 s = 0) ∧ zup σ 0 11 1 = u7 ∧ -1000011 = v7) ∨ (((0 ≤ s ∧ s < 8) ∧ 1 ≤ c ∧ c ≤ 40 ∧ σ 11 s = 1 ∧ ¬ (0 ≤ i ∧ i + 2 * c ≤ σ 13 s)) ∧ zup σ 0 11 2 = u7 ∧ -1000012 = v7) ∨ (((0 ≤ s ∧ s < 8) ∧ 1 ≤ c ∧ c ≤ 40 ∧ σ 11 s = 1 ∧ 0 ≤ i ∧ i + 2 * c ≤ σ 13 s) ∧ ¬ zPOs σ (80 * s) i c ∧ σ = u7 ∧ -1000001 = v7) ∨ (((0 ≤ s ∧ s < 8) ∧ 1 ≤ c ∧ c ≤ 40 ∧ σ 11 s = 1 ∧ 0 ≤ i ∧ i + 2 * c ≤ σ 13 s) ∧ zPOs σ (80 * s) i c ∧ u7 2 10 = v7 ∧ zfr [0, 2, 15, 16, 17, 18, 19, 20, 21] σ u7 ∧ (∀ j : Int, ¬ j = 2 → ¬ j = 7 → ¬ j = 10 → ¬ j = 11 → u7 2 j = σ 2 j) ∧ u7 2 2 = c ∧ (∀ j : Int, ¬ j = 4 → ¬ j = 11 → u7 0 j = σ 0 j) ∧ u7 0 4 = -1 ∧ u7 0 11 = 0 ∧ (∀ j : Int, 0 ≤ j → j < c → u7 15 j = zrX σ (80 * s) i j ∧ u7 16 j = zrS σ (80 * s) i j) ∧ zLC (u7 15) (u7 16) (σ 2 3) c.toNat u7))))))) ∧ ((40 : Int) < c → (((¬ (0 ≤ s ∧ s < 8) ∨ c < 1 ∨ 40 < c) ∧ σ = u1 ∧ -1000001 = (-1000001 : Int)) ∨ (((0 ≤ s ∧ s < 8) ∧ 1 ≤ c ∧ c ≤ 40 ∧ σ 11 s = 0) ∧ zup σ 0 11 1 = u1 ∧ -1000011 = (-1000001 : Int)) ∨ (((0 ≤ s ∧ s < 8) ∧ 1 ≤ c ∧ c ≤ 40 ∧ σ 11 s = 1 ∧ ¬ (0 ≤ i ∧ i + 2 * c ≤ σ 13 s)) ∧ zup σ 0 11 2 = u1 ∧ -1000012 = (-1000001 : Int)) ∨ (((0 ≤ s ∧ s < 8) ∧ 1 ≤ c ∧ c ≤ 40 ∧ σ 11 s = 1 ∧ 0 ≤ i ∧ i + 2 * c ≤ σ 13 s) ∧ ¬ zPOs σ (80 * s) i c ∧ σ = u1 ∧ -1000001 = (-1000001 : Int)) ∨ (((0 ≤ s ∧ s < 8) ∧ 1 ≤ c ∧ c ≤ 40 ∧ σ 11 s = 1 ∧ 0 ≤ i ∧ i + 2 * c ≤ σ 13 s) ∧ zPOs σ (80 * s) i c ∧ u1 2 10 = (-1000001 : Int) ∧ zfr [0, 2, 15, 16, 17, 18, 19, 20, 21] σ u1 ∧ (∀ j : Int, ¬ j = 2 → ¬ j = 7 → ¬ j = 10 → ¬ j = 11 → u1 2 j = σ 2 j) ∧ u1 2 2 = c ∧ (∀ j : Int, ¬ j = 4 → ¬ j = 11 → u1 0 j = σ 0 j) ∧ u1 0 4 = -1 ∧ u1 0 11 = 0 ∧ (∀ j : Int, 0 ≤ j → j < c → u1 15 j = zrX σ (80 * s) i j ∧ u1 16 j = zrS σ (80 * s) i j) ∧ zLC (u1 15) (u1 16) (σ 2 3) c.toNat u1)))))))))
  have c0 := hcs s
  refine ⟨_, am_X8_isSheet, ?_⟩
  intro v1 u1 hv1
  rintro ⟨rfl, (⟨rfl, cv1⟩ | ⟨rfl, cv1⟩)⟩
  · refine ⟨?_, ?_⟩
    · exact fun h => absurd h (by decide)
    · intro _
      refine ⟨?_, ?_⟩
      · intro h2
        first | exact Or.inl ⟨by omega, rfl, rfl⟩ | exact Or.inr (Or.inl ⟨by omega, rfl, rfl⟩) | exact Or.inr (Or.inr (Or.inl ⟨by omega, rfl, rfl⟩)) | exact Or.inr (Or.inr (Or.inr (Or.inl ⟨by omega, by assumption, rfl, rfl⟩)))
      · intro h3
        refine ⟨?_, ?_⟩
        · intro h4
          refine ⟨by (first | omega | exact ⟨by omega, by omega⟩ | exact ⟨by omega, by omega, by omega⟩ | exact ⟨by omega, by omega, by omega, by omega, by omega⟩), ?_⟩
          refine ⟨?_, ?_⟩
          · intro h5
            refine ⟨by (exact ⟨by omega, by omega⟩), ?_⟩
            refine ⟨_, am_X5_reaches (by omega), ?_⟩
            intro v2 u2 hv2
            rintro ⟨rfl, (⟨rfl, cv2⟩ | ⟨rfl, cv2⟩)⟩
            · refine ⟨?_, ?_⟩
              · intro _
                refine ⟨_, am_X5_holdsPieces (by omega) (by omega), ?_⟩
                intro v3 u3 hv3
                rintro ⟨rfl, (⟨rfl, cv3⟩ | ⟨rfl, cv3⟩)⟩
                · refine ⟨?_, ?_⟩
                  · intro _
                    refine ⟨by (first | omega | exact ⟨by omega, by omega⟩ | exact ⟨by omega, by omega, by omega⟩ | exact ⟨by omega, by omega, by omega, by omega, by omega⟩), ?_⟩
                    obtain ⟨m, rfl⟩ : ∃ m : Nat, c = (m : Int) := ⟨c.toNat, by omega⟩
                    refine ⟨_, am_X2_write (s := s) (i := i) (n := m) (by omega) (by omega) (by omega) (by assumption), ?_⟩
                    intro u4
                    intro kv4
                    obtain ⟨f1, a1, a2, a3, a4⟩ := kv4
                    refine ⟨_, am_X8_fine, ?_⟩
                    intro v5 u5 hv5
                    rintro ⟨rfl, rfl⟩
                    obtain ⟨hv5a, hv5b⟩ := hv5
                    refine Or.inr (Or.inr (Or.inr (Or.inr ⟨by omega, by assumption, rfl, fun k hk => ?_, fun j j1 j2 j3 j4 => ?_, ?_, fun j j1 j2 => ?_, ?_, ?_, ?_, ?_⟩)))
                    · have hk1 : k ∉ [2, 15, 16, 17, 18, 19, 20, 21] := fun q => hk (by simp at q ⊢; omega)
                      have hk3 : ¬ k = 0 := fun q => hk (by simp [q])
                      rw [zup_ne hk3, zup_ne hk3, f1 k hk1]
                    · rw [zup_ne (by decide), zup_ne (by decide), a1 j j1 j2 j3 j4]
                    · exact a2
                    · rw [zup_at, if_neg j2, zup_at, if_neg j1, f1 0 (by decide)]
                    · rw [zup_at, if_neg (by decide), zup_at]; exact if_pos rfl
                    · rw [zup_at]; exact if_pos rfl
                    · exact a3
                    · rw [Int.toNat_natCast]; exact a4
                  · exact fun h => absurd h (by decide)
                · refine ⟨?_, ?_⟩
                  · exact fun h => absurd h (by decide)
                  · intro _
                    first | exact Or.inl ⟨by omega, rfl, rfl⟩ | exact Or.inr (Or.inl ⟨by omega, rfl, rfl⟩) | exact Or.inr (Or.inr (Or.inl ⟨by omega, rfl, rfl⟩)) | exact Or.inr (Or.inr (Or.inr (Or.inl ⟨by omega, by assumption, rfl, rfl⟩)))
              · exact fun h => absurd h (by decide)
            · refine ⟨?_, ?_⟩
              · exact fun h => absurd h (by decide)
              · intro _
                refine ⟨_, am_X8_found (by omega), ?_⟩
                intro v6 u6 hv6
                rintro ⟨rfl, rfl⟩
                obtain ⟨hv6a, hv6b⟩ := hv6
                first | exact Or.inl ⟨by omega, rfl, rfl⟩ | exact Or.inr (Or.inl ⟨by omega, rfl, rfl⟩) | exact Or.inr (Or.inr (Or.inl ⟨by omega, rfl, rfl⟩)) | exact Or.inr (Or.inr (Or.inr (Or.inl ⟨by omega, by assumption, rfl, rfl⟩)))
          · intro h10
            refine ⟨_, am_X8_found (by omega), ?_⟩
            intro v7 u7 hv7
            rintro ⟨rfl, rfl⟩
            obtain ⟨hv7a, hv7b⟩ := hv7
            first | exact Or.inl ⟨by omega, rfl, rfl⟩ | exact Or.inr (Or.inl ⟨by omega, rfl, rfl⟩) | exact Or.inr (Or.inr (Or.inl ⟨by omega, rfl, rfl⟩)) | exact Or.inr (Or.inr (Or.inr (Or.inl ⟨by omega, by assumption, rfl, rfl⟩)))
        · intro h11
          first | exact Or.inl ⟨by omega, rfl, rfl⟩ | exact Or.inr (Or.inl ⟨by omega, rfl, rfl⟩) | exact Or.inr (Or.inr (Or.inl ⟨by omega, rfl, rfl⟩)) | exact Or.inr (Or.inr (Or.inr (Or.inl ⟨by omega, by assumption, rfl, rfl⟩)))
  · refine ⟨?_, ?_⟩
    · intro _
      first | exact Or.inl ⟨by omega, rfl, rfl⟩ | exact Or.inr (Or.inl ⟨by omega, rfl, rfl⟩) | exact Or.inr (Or.inr (Or.inl ⟨by omega, rfl, rfl⟩)) | exact Or.inr (Or.inr (Or.inr (Or.inl ⟨by omega, by assumption, rfl, rfl⟩)))
    · exact fun h => absurd h (by decide)
