theorem zc_lt {x y : Int} : zcmp x y < 0 ↔ x < y := by
  unfold zcmp
  repeat' split
  all_goals omega
theorem zc_ge {x y : Int} : 0 ≤ zcmp x y ↔ y ≤ x := by
  unfold zcmp
  repeat' split
  all_goals omega
theorem zc_gt {x y : Int} : 0 < zcmp x y ↔ y < x := by
  unfold zcmp
  repeat' split
  all_goals omega
theorem zc_le {x y : Int} : zcmp x y ≤ 0 ↔ x ≤ y := by
  unfold zcmp
  repeat' split
  all_goals omega
theorem zc_eq {x y : Int} : zcmp x y = 0 ↔ x = y := by
  unfold zcmp
  repeat' split
  all_goals omega
set_option maxRecDepth 100000 in
set_option maxHeartbeats 4000000 in
theorem am_X8_isSheet {σ : zS} {k : Int} : zAM 78 [.inl k] σ (fun (v : Int) (u : zS) => u = σ ∧ (v = 1 ∧ (0 ≤ k ∧ k < 8) ∨ v = 0 ∧ ¬ (0 ≤ k ∧ k < 8))) := by
  refine zam (by decide) (Nat.le_of_ble_eq_true rfl) ?_
  refine zwalk zmk_78 [] 3 ?_
  show ((k < 0 → (((0 : Int) = 0 ∨ (0 : Int) = 1) ∧ (σ = σ ∧ ((0 : Int) = 1 ∧ (0 ≤ k ∧ k < 8) ∨ (0 : Int) = 0 ∧ ¬ (0 ≤ k ∧ k < 8))))) ∧ (0 ≤ k → (((8 : Int) ≤ k → (((0 : Int) = 0 ∨ (0 : Int) = 1) ∧ (σ = σ ∧ ((0 : Int) = 1 ∧ (0 ≤ k ∧ k < 8) ∨ (0 : Int) = 0 ∧ ¬ (0 ≤ k ∧ k < 8))))) ∧ (k < (8 : Int) → (((1 : Int) = 0 ∨ (1 : Int) = 1) ∧ (σ = σ ∧ ((1 : Int) = 1 ∧ (0 ≤ k ∧ k < 8) ∨ (1 : Int) = 0 ∧ ¬ (0 ≤ k ∧ k < 8))))))))
  refine ⟨?_, ?_⟩
  · intro h1
    refine ⟨by (omega), ?_⟩
    exact ⟨rfl, by omega⟩
  · intro h2
    refine ⟨?_, ?_⟩
    · intro h3
      refine ⟨by (omega), ?_⟩
      exact ⟨rfl, by omega⟩
    · intro h4
      refine ⟨by (omega), ?_⟩
      exact ⟨rfl, by omega⟩
set_option maxRecDepth 100000 in
set_option maxHeartbeats 4000000 in
theorem am_X8_isLetter {σ : zS} {k : Int} : zAM 80 [.inl k] σ (fun (v : Int) (u : zS) => u = σ ∧ (v = 1 ∧ (0 ≤ k ∧ k < 26) ∨ v = 0 ∧ ¬ (0 ≤ k ∧ k < 26))) := by
  refine zam (by decide) (Nat.le_of_ble_eq_true rfl) ?_
  refine zwalk zmk_80 [] 3 ?_
  show ((k < 0 → (((0 : Int) = 0 ∨ (0 : Int) = 1) ∧ (σ = σ ∧ ((0 : Int) = 1 ∧ (0 ≤ k ∧ k < 26) ∨ (0 : Int) = 0 ∧ ¬ (0 ≤ k ∧ k < 26))))) ∧ (0 ≤ k → (((26 : Int) ≤ k → (((0 : Int) = 0 ∨ (0 : Int) = 1) ∧ (σ = σ ∧ ((0 : Int) = 1 ∧ (0 ≤ k ∧ k < 26) ∨ (0 : Int) = 0 ∧ ¬ (0 ≤ k ∧ k < 26))))) ∧ (k < (26 : Int) → (((1 : Int) = 0 ∨ (1 : Int) = 1) ∧ (σ = σ ∧ ((1 : Int) = 1 ∧ (0 ≤ k ∧ k < 26) ∨ (1 : Int) = 0 ∧ ¬ (0 ≤ k ∧ k < 26))))))))
  refine ⟨?_, ?_⟩
  · intro h1
    refine ⟨by (omega), ?_⟩
    exact ⟨rfl, by omega⟩
  · intro h2
    refine ⟨?_, ?_⟩
    · intro h3
      refine ⟨by (omega), ?_⟩
      exact ⟨rfl, by omega⟩
    · intro h4
      refine ⟨by (omega), ?_⟩
      exact ⟨rfl, by omega⟩
set_option maxRecDepth 100000 in
set_option maxHeartbeats 4000000 in
theorem am_X8_isShape {σ : zS} {k : Int} : zAM 81 [.inl k] σ (fun (v : Int) (u : zS) => u = σ ∧ (v = 1 ∧ (0 ≤ k ∧ k < 12) ∨ v = 0 ∧ ¬ (0 ≤ k ∧ k < 12))) := by
  refine zam (by decide) (Nat.le_of_ble_eq_true rfl) ?_
  refine zwalk zmk_81 [] 3 ?_
  show ((k < 0 → (((0 : Int) = 0 ∨ (0 : Int) = 1) ∧ (σ = σ ∧ ((0 : Int) = 1 ∧ (0 ≤ k ∧ k < 12) ∨ (0 : Int) = 0 ∧ ¬ (0 ≤ k ∧ k < 12))))) ∧ (0 ≤ k → (((12 : Int) ≤ k → (((0 : Int) = 0 ∨ (0 : Int) = 1) ∧ (σ = σ ∧ ((0 : Int) = 1 ∧ (0 ≤ k ∧ k < 12) ∨ (0 : Int) = 0 ∧ ¬ (0 ≤ k ∧ k < 12))))) ∧ (k < (12 : Int) → (((1 : Int) = 0 ∨ (1 : Int) = 1) ∧ (σ = σ ∧ ((1 : Int) = 1 ∧ (0 ≤ k ∧ k < 12) ∨ (1 : Int) = 0 ∧ ¬ (0 ≤ k ∧ k < 12))))))))
  refine ⟨?_, ?_⟩
  · intro h1
    refine ⟨by (omega), ?_⟩
    exact ⟨rfl, by omega⟩
  · intro h2
    refine ⟨?_, ?_⟩
    · intro h3
      refine ⟨by (omega), ?_⟩
      exact ⟨rfl, by omega⟩
    · intro h4
      refine ⟨by (omega), ?_⟩
      exact ⟨rfl, by omega⟩
set_option maxRecDepth 100000 in
set_option maxHeartbeats 4000000 in
theorem am_X8_isInk {σ : zS} {k : Int} : zAM 79 [.inr (.inr (0, 0)), .inl k] σ (fun (v : Int) (u : zS) => u = σ ∧ (v = 1 ∧ (0 ≤ k ∧ k < σ 2 10) ∨ v = 0 ∧ ¬ (0 ≤ k ∧ k < σ 2 10))) := by
  refine zam (by decide) (Nat.le_of_ble_eq_true rfl) ?_
  refine zwalk zmk_79 [] 3 ?_
  show ((k < 0 → (((0 : Int) = 0 ∨ (0 : Int) = 1) ∧ (σ = σ ∧ ((0 : Int) = 1 ∧ (0 ≤ k ∧ k < σ 2 10) ∨ (0 : Int) = 0 ∧ ¬ (0 ≤ k ∧ k < σ 2 10))))) ∧ (0 ≤ k → (((σ 2 (10 : Int)) ≤ k → (((0 : Int) = 0 ∨ (0 : Int) = 1) ∧ (σ = σ ∧ ((0 : Int) = 1 ∧ (0 ≤ k ∧ k < σ 2 10) ∨ (0 : Int) = 0 ∧ ¬ (0 ≤ k ∧ k < σ 2 10))))) ∧ (k < (σ 2 (10 : Int)) → (((1 : Int) = 0 ∨ (1 : Int) = 1) ∧ (σ = σ ∧ ((1 : Int) = 1 ∧ (0 ≤ k ∧ k < σ 2 10) ∨ (1 : Int) = 0 ∧ ¬ (0 ≤ k ∧ k < σ 2 10))))))))
  refine ⟨?_, ?_⟩
  · intro h1
    refine ⟨by (omega), ?_⟩
    exact ⟨rfl, by omega⟩
  · intro h2
    refine ⟨?_, ?_⟩
    · intro h3
      refine ⟨by (omega), ?_⟩
      exact ⟨rfl, by omega⟩
    · intro h4
      refine ⟨by (omega), ?_⟩
      exact ⟨rfl, by omega⟩
set_option maxRecDepth 100000 in
set_option maxHeartbeats 4000000 in
theorem am_X9_in {σ : zS} {a : Int} {b : Int} {c : Int} : zAM 103 [.inr (.inl a), .inr (.inl b), .inr (.inl c)] σ (fun (v : Int) (u : zS) => u = σ ∧ (v = 1 ∧ (b ≤ a ∧ a ≤ c) ∨ v = 0 ∧ ¬ (b ≤ a ∧ a ≤ c))) := by
  refine zam (by decide) (Nat.le_of_ble_eq_true rfl) ?_
  refine zwalk zmk_103 [] 3 ?_
  show (((zcmp a b) < 0 → (((0 : Int) = 0 ∨ (0 : Int) = 1) ∧ (σ = σ ∧ ((0 : Int) = 1 ∧ (b ≤ a ∧ a ≤ c) ∨ (0 : Int) = 0 ∧ ¬ (b ≤ a ∧ a ≤ c))))) ∧ (0 ≤ (zcmp a b) → ((0 < (zcmp a c) → (((0 : Int) = 0 ∨ (0 : Int) = 1) ∧ (σ = σ ∧ ((0 : Int) = 1 ∧ (b ≤ a ∧ a ≤ c) ∨ (0 : Int) = 0 ∧ ¬ (b ≤ a ∧ a ≤ c))))) ∧ ((zcmp a c) ≤ 0 → (((1 : Int) = 0 ∨ (1 : Int) = 1) ∧ (σ = σ ∧ ((1 : Int) = 1 ∧ (b ≤ a ∧ a ≤ c) ∨ (1 : Int) = 0 ∧ ¬ (b ≤ a ∧ a ≤ c))))))))
  refine ⟨?_, ?_⟩
  · intro h1
    simp only [zc_lt, zc_ge, zc_gt, zc_le, zc_eq] at h1
    refine ⟨by (omega), ?_⟩
    exact ⟨rfl, by omega⟩
  · intro h2
    simp only [zc_lt, zc_ge, zc_gt, zc_le, zc_eq] at h2
    refine ⟨?_, ?_⟩
    · intro h3
      simp only [zc_lt, zc_ge, zc_gt, zc_le, zc_eq] at h3
      refine ⟨by (omega), ?_⟩
      exact ⟨rfl, by omega⟩
    · intro h4
      simp only [zc_lt, zc_ge, zc_gt, zc_le, zc_eq] at h4
      refine ⟨by (omega), ?_⟩
      exact ⟨rfl, by omega⟩
set_option maxRecDepth 100000 in
set_option maxHeartbeats 4000000 in
theorem am_X8_isRow {σ : zS} {n : Int} {a : Int} {b : Int} {c : Int} : zAM 82 [.inl n, .inl a, .inl b, .inl c] σ (fun (v : Int) (u : zS) => u = σ ∧ (v = 1 ∧ (1 ≤ n ∧ n ≤ 3 ∧ 0 ≤ a ∧ a < 12 ∧ (n < 2 ∨ 0 ≤ b ∧ b < 12) ∧ (n < 3 ∨ 0 ≤ c ∧ c < 12)) ∨ v = 0 ∧ ¬ (1 ≤ n ∧ n ≤ 3 ∧ 0 ≤ a ∧ a < 12 ∧ (n < 2 ∨ 0 ≤ b ∧ b < 12) ∧ (n < 3 ∨ 0 ≤ c ∧ c < 12)))) := by
  refine zam (by decide) (Nat.le_of_ble_eq_true rfl) ?_
  refine zwalk zmk_82 [] 5 ?_
  show ((n < (1 : Int) → (((0 : Int) = 0 ∨ (0 : Int) = 1) ∧ (σ = σ ∧ ((0 : Int) = 1 ∧ (1 ≤ n ∧ n ≤ 3 ∧ 0 ≤ a ∧ a < 12 ∧ (n < 2 ∨ 0 ≤ b ∧ b < 12) ∧ (n < 3 ∨ 0 ≤ c ∧ c < 12)) ∨ (0 : Int) = 0 ∧ ¬ (1 ≤ n ∧ n ≤ 3 ∧ 0 ≤ a ∧ a < 12 ∧ (n < 2 ∨ 0 ≤ b ∧ b < 12) ∧ (n < 3 ∨ 0 ≤ c ∧ c < 12)))))) ∧ ((1 : Int) ≤ n → (((3 : Int) < n → (((0 : Int) = 0 ∨ (0 : Int) = 1) ∧ (σ = σ ∧ ((0 : Int) = 1 ∧ (1 ≤ n ∧ n ≤ 3 ∧ 0 ≤ a ∧ a < 12 ∧ (n < 2 ∨ 0 ≤ b ∧ b < 12) ∧ (n < 3 ∨ 0 ≤ c ∧ c < 12)) ∨ (0 : Int) = 0 ∧ ¬ (1 ≤ n ∧ n ≤ 3 ∧ 0 ≤ a ∧ a < 12 ∧ (n < 2 ∨ 0 ≤ b ∧ b < 12) ∧ (n < 3 ∨ 0 ≤ c ∧ c < 12)))))) ∧ (n ≤ (3 : Int) → (∃ Rc : Int → zS → Prop, zAM 81 [.inl a] σ Rc ∧ ∀ (v1 : Int) (u1 : zS), zI v1 → Rc v1 u1 → ((v1 = 0 → (((0 : Int) = 0 ∨ (0 : Int) = 1) ∧ (u1 = σ ∧ ((0 : Int) = 1 ∧ (1 ≤ n ∧ n ≤ 3 ∧ 0 ≤ a ∧ a < 12 ∧ (n < 2 ∨ 0 ≤ b ∧ b < 12) ∧ (n < 3 ∨ 0 ≤ c ∧ c < 12)) ∨ (0 : Int) = 0 ∧ ¬ (1 ≤ n ∧ n ≤ 3 ∧ 0 ≤ a ∧ a < 12 ∧ (n < 2 ∨ 0 ≤ b ∧ b < 12) ∧ (n < 3 ∨ 0 ≤ c ∧ c < 12)))))) ∧ (¬ v1 = 0 → ((n < (2 : Int) → ((n < (3 : Int) → (((1 : Int) = 0 ∨ (1 : Int) = 1) ∧ (u1 = σ ∧ ((1 : Int) = 1 ∧ (1 ≤ n ∧ n ≤ 3 ∧ 0 ≤ a ∧ a < 12 ∧ (n < 2 ∨ 0 ≤ b ∧ b < 12) ∧ (n < 3 ∨ 0 ≤ c ∧ c < 12)) ∨ (1 : Int) = 0 ∧ ¬ (1 ≤ n ∧ n ≤ 3 ∧ 0 ≤ a ∧ a < 12 ∧ (n < 2 ∨ 0 ≤ b ∧ b < 12) ∧ (n < 3 ∨ 0 ≤ c ∧ c < 12)))))) ∧ ((3 : Int) ≤ n → (∃ Rc : Int → zS → Prop, zAM 81 [.inl c] u1 Rc ∧ ∀ (v2 : Int) (u2 : zS), zI v2 → Rc v2 u2 → ((v2 = 0 → (((0 : Int) = 0 ∨ (0 : Int) = 1) ∧ (u2 = σ ∧ ((0 : Int) = 1 ∧ (1 ≤ n ∧ n ≤ 3 ∧ 0 ≤ a ∧ a < 12 ∧ (n < 2 ∨ 0 ≤ b ∧ b < 12) ∧ (n < 3 ∨ 0 ≤ c ∧ c < 12)) ∨ (0 : Int) = 0 ∧ ¬ (1 ≤ n ∧ n ≤ 3 ∧ 0 ≤ a ∧ a < 12 ∧ (n < 2 ∨ 0 ≤ b ∧ b < 12) ∧ (n < 3 ∨ 0 ≤ c ∧ c < 12)))))) ∧ (¬ v2 = 0 → (((1 : Int) = 0 ∨ (1 : Int) = 1) ∧ (u2 = σ ∧ ((1 : Int) = 1 ∧ (1 ≤ n ∧ n ≤ 3 ∧ 0 ≤ a ∧ a < 12 ∧ (n < 2 ∨ 0 ≤ b ∧ b < 12) ∧ (n < 3 ∨ 0 ≤ c ∧ c < 12)) ∨ (1 : Int) = 0 ∧ ¬ (1 ≤ n ∧ n ≤ 3 ∧ 0 ≤ a ∧ a < 12 ∧ (n < 2 ∨ 0 ≤ b ∧ b < 12) ∧ (n < 3 ∨ 0 ≤ c ∧ c < 12))))))))))) ∧ ((2 : Int) ≤ n → (∃ Rc : Int → zS → Prop, zAM 81 [.inl b] u1 Rc ∧ ∀ (v3 : Int) (u3 : zS), zI v3 → Rc v3 u3 → ((v3 = 0 → (((0 : Int) = 0 ∨ (0 : Int) = 1) ∧ (u3 = σ ∧ ((0 : Int) = 1 ∧ (1 ≤ n ∧ n ≤ 3 ∧ 0 ≤ a ∧ a < 12 ∧ (n < 2 ∨ 0 ≤ b ∧ b < 12) ∧ (n < 3 ∨ 0 ≤ c ∧ c < 12)) ∨ (0 : Int) = 0 ∧ ¬ (1 ≤ n ∧ n ≤ 3 ∧ 0 ≤ a ∧ a < 12 ∧ (n < 2 ∨ 0 ≤ b ∧ b < 12) ∧ (n < 3 ∨ 0 ≤ c ∧ c < 12)))))) ∧ (¬ v3 = 0 → ((n < (3 : Int) → (((1 : Int) = 0 ∨ (1 : Int) = 1) ∧ (u3 = σ ∧ ((1 : Int) = 1 ∧ (1 ≤ n ∧ n ≤ 3 ∧ 0 ≤ a ∧ a < 12 ∧ (n < 2 ∨ 0 ≤ b ∧ b < 12) ∧ (n < 3 ∨ 0 ≤ c ∧ c < 12)) ∨ (1 : Int) = 0 ∧ ¬ (1 ≤ n ∧ n ≤ 3 ∧ 0 ≤ a ∧ a < 12 ∧ (n < 2 ∨ 0 ≤ b ∧ b < 12) ∧ (n < 3 ∨ 0 ≤ c ∧ c < 12)))))) ∧ ((3 : Int) ≤ n → (∃ Rc : Int → zS → Prop, zAM 81 [.inl c] u3 Rc ∧ ∀ (v4 : Int) (u4 : zS), zI v4 → Rc v4 u4 → ((v4 = 0 → (((0 : Int) = 0 ∨ (0 : Int) = 1) ∧ (u4 = σ ∧ ((0 : Int) = 1 ∧ (1 ≤ n ∧ n ≤ 3 ∧ 0 ≤ a ∧ a < 12 ∧ (n < 2 ∨ 0 ≤ b ∧ b < 12) ∧ (n < 3 ∨ 0 ≤ c ∧ c < 12)) ∨ (0 : Int) = 0 ∧ ¬ (1 ≤ n ∧ n ≤ 3 ∧ 0 ≤ a ∧ a < 12 ∧ (n < 2 ∨ 0 ≤ b ∧ b < 12) ∧ (n < 3 ∨ 0 ≤ c ∧ c < 12)))))) ∧ (¬ v4 = 0 → (((1 : Int) = 0 ∨ (1 : Int) = 1) ∧ (u4 = σ ∧ ((1 : Int) = 1 ∧ (1 ≤ n ∧ n ≤ 3 ∧ 0 ≤ a ∧ a < 12 ∧ (n < 2 ∨ 0 ≤ b ∧ b < 12) ∧ (n < 3 ∨ 0 ≤ c ∧ c < 12)) ∨ (1 : Int) = 0 ∧ ¬ (1 ≤ n ∧ n ≤ 3 ∧ 0 ≤ a ∧ a < 12 ∧ (n < 2 ∨ 0 ≤ b ∧ b < 12) ∧ (n < 3 ∨ 0 ≤ c ∧ c < 12))))))))))))))))))))))
  refine ⟨?_, ?_⟩
  · intro h1
    refine ⟨by (omega), ?_⟩
    exact ⟨rfl, by omega⟩
  · intro h2
    refine ⟨?_, ?_⟩
    · intro h3
      refine ⟨by (omega), ?_⟩
      exact ⟨rfl, by omega⟩
    · intro h4
      refine ⟨_, am_X8_isShape, ?_⟩
      intro v1 u1 hv1
      rintro ⟨rfl, (⟨rfl, cv1⟩ | ⟨rfl, cv1⟩)⟩
      · refine ⟨?_, ?_⟩
        · exact fun h => absurd h (by decide)
        · intro _
          refine ⟨?_, ?_⟩
          · intro h6
            refine ⟨?_, ?_⟩
            · intro h7
              refine ⟨by (omega), ?_⟩
              exact ⟨rfl, by omega⟩
            · intro h8
              refine ⟨_, am_X8_isShape, ?_⟩
              intro v2 u2 hv2
              rintro ⟨rfl, (⟨rfl, cv2⟩ | ⟨rfl, cv2⟩)⟩
              · refine ⟨?_, ?_⟩
                · exact fun h => absurd h (by decide)
                · intro _
                  refine ⟨by (omega), ?_⟩
                  exact ⟨rfl, by omega⟩
              · refine ⟨?_, ?_⟩
                · intro _
                  refine ⟨by (omega), ?_⟩
                  exact ⟨rfl, by omega⟩
                · exact fun h => absurd h (by decide)
          · intro h11
            refine ⟨_, am_X8_isShape, ?_⟩
            intro v3 u3 hv3
            rintro ⟨rfl, (⟨rfl, cv3⟩ | ⟨rfl, cv3⟩)⟩
            · refine ⟨?_, ?_⟩
              · exact fun h => absurd h (by decide)
              · intro _
                refine ⟨?_, ?_⟩
                · intro h13
                  refine ⟨by (omega), ?_⟩
                  exact ⟨rfl, by omega⟩
                · intro h14
                  refine ⟨_, am_X8_isShape, ?_⟩
                  intro v4 u4 hv4
                  rintro ⟨rfl, (⟨rfl, cv4⟩ | ⟨rfl, cv4⟩)⟩
                  · refine ⟨?_, ?_⟩
                    · exact fun h => absurd h (by decide)
                    · intro _
                      refine ⟨by (omega), ?_⟩
                      exact ⟨rfl, by omega⟩
                  · refine ⟨?_, ?_⟩
                    · intro _
                      refine ⟨by (omega), ?_⟩
                      exact ⟨rfl, by omega⟩
                    · exact fun h => absurd h (by decide)
            · refine ⟨?_, ?_⟩
              · intro _
                refine ⟨by (omega), ?_⟩
                exact ⟨rfl, by omega⟩
              · exact fun h => absurd h (by decide)
      · refine ⟨?_, ?_⟩
        · intro _
          refine ⟨by (omega), ?_⟩
          exact ⟨rfl, by omega⟩
        · exact fun h => absurd h (by decide)
set_option maxRecDepth 100000 in
set_option maxHeartbeats 4000000 in
theorem am_X8_found {σ : zS} {k : Int} (hk : 0 ≤ k ∧ k ≤ 5) : zAM 76 [.inr (.inr (0, 0)), .inl k] σ (fun (v : Int) (u : zS) => u = zup σ 0 11 k ∧ v = -1000010 - k) := by
  refine zam (by decide) (Nat.le_of_ble_eq_true rfl) ?_
  refine zwalk zmk_76 [] 2 ?_
  show (zI ((-1000010 : Int) - k) ∧ ((zup σ 0 (11 : Int) k) = zup σ 0 11 k ∧ ((-1000010 : Int) - k) = -1000010 - k))
  refine ⟨by (exact ⟨by omega, by omega⟩), ?_⟩
  exact ⟨rfl, rfl⟩
set_option maxRecDepth 100000 in
set_option maxHeartbeats 4000000 in
theorem am_X8_fine {σ : zS} {k : Int} : zAM 77 [.inr (.inr (0, 0)), .inl k] σ (fun (v : Int) (u : zS) => u = zup σ 0 11 0 ∧ v = k) := by
  refine zam (by decide) (Nat.le_of_ble_eq_true rfl) ?_
  refine zwalk zmk_77 [] 2 ?_
  show ((zup σ 0 (11 : Int) (0 : Int)) = zup σ 0 11 0 ∧ k = k)
  exact ⟨rfl, rfl⟩
