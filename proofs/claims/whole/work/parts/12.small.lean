theorem zc_lt {x y : Int} : zcmp x y < 0 ↔ x < y := by
  unfold zcmp
  repeat' split
  all_goals omega
theorem zc_ge {x y : Int} : 0 ≤ zcmp x y ↔ y ≤ x := by
  unfold zcmp
  repeat' split
  all_goals omega
theorem zc_gt {x y : Int} : 0 < zcmp x y ↔ y < x := by
  unfold zcmp
  repeat' split
  all_goals omega
theorem zc_le {x y : Int} : zcmp x y ≤ 0 ↔ x ≤ y := by
  unfold zcmp
  repeat' split
  all_goals omega
theorem zc_eq {x y : Int} : zcmp x y = 0 ↔ x = y := by
  unfold zcmp
  repeat' split
  all_goals omega
set_option maxRecDepth 100000 in
set_option maxHeartbeats 4000000 in
theorem am_X8_isSheet {σ : zS} {k : Int} : zAM 78 [.inl k] σ (fun (v : Int) (u : zS) => σ = u ∧ (v = 1 ∧ (0 ≤ k ∧ k < 8) ∨ v = 0 ∧ ¬ (0 ≤ k ∧ k < 8))) := by
  refine zam (by decide) (Nat.le_of_ble_eq_true rfl) ?_
  refine zwalk zmk_78 [] 3 ?_
  show ((k < 0 → (((0 : Int) = 0 ∨ (0 : Int) = 1) ∧ (σ = σ ∧ ((0 : Int) = 1 ∧ (0 ≤ k ∧ k < 8) ∨ (0 : Int) = 0 ∧ ¬ (0 ≤ k ∧ k < 8))))) ∧ (0 ≤ k → (((8 : Int) ≤ k → (((0 : Int) = 0 ∨ (0 : Int) = 1) ∧ (σ = σ ∧ ((0 : Int) = 1 ∧ (0 ≤ k ∧ k < 8) ∨ (0 : Int) = 0 ∧ ¬ (0 ≤ k ∧ k < 8))))) ∧ (k < (8 : Int) → (((1 : Int) = 0 ∨ (1 : Int) = 1) ∧ (σ = σ ∧ ((1 : Int) = 1 ∧ (0 ≤ k ∧ k < 8) ∨ (1 : Int) = 0 ∧ ¬ (0 ≤ k ∧ k < 8))))))))
  refine ⟨?_, ?_⟩
  · intro h1
    refine ⟨by (omega), ?_⟩
    exact ⟨rfl, by omega⟩
  · intro h2
    refine ⟨?_, ?_⟩
    · intro h3
      refine ⟨by (omega), ?_⟩
      exact ⟨rfl, by omega⟩
    · intro h4
      refine ⟨by (omega), ?_⟩
      exact ⟨rfl, by omega⟩
set_option maxRecDepth 100000 in
set_option maxHeartbeats 4000000 in
theorem am_X8_isLetter {σ : zS} {k : Int} : zAM 80 [.inl k] σ (fun (v : Int) (u : zS) => σ = u ∧ (v = 1 ∧ (0 ≤ k ∧ k < 26) ∨ v = 0 ∧ ¬ (0 ≤ k ∧ k < 26))) := by
  refine zam (by decide) (Nat.le_of_ble_eq_true rfl) ?_
  refine zwalk zmk_80 [] 3 ?_
  show ((k < 0 → (((0 : Int) = 0 ∨ (0 : Int) = 1) ∧ (σ = σ ∧ ((0 : Int) = 1 ∧ (0 ≤ k ∧ k < 26) ∨ (0 : Int) = 0 ∧ ¬ (0 ≤ k ∧ k < 26))))) ∧ (0 ≤ k → (((26 : Int) ≤ k → (((0 : Int) = 0 ∨ (0 : Int) = 1) ∧ (σ = σ ∧ ((0 : Int) = 1 ∧ (0 ≤ k ∧ k < 26) ∨ (0 : Int) = 0 ∧ ¬ (0 ≤ k ∧ k < 26))))) ∧ (k < (26 : Int) → (((1 : Int) = 0 ∨ (1 : Int) = 1) ∧ (σ = σ ∧ ((1 : Int) = 1 ∧ (0 ≤ k ∧ k < 26) ∨ (1 : Int) = 0 ∧ ¬ (0 ≤ k ∧ k < 26))))))))
  refine ⟨?_, ?_⟩
  · intro h1
    refine ⟨by (omega), ?_⟩
    exact ⟨rfl, by omega⟩
  · intro h2
    refine ⟨?_, ?_⟩
    · intro h3
      refine ⟨by (omega), ?_⟩
      exact ⟨rfl, by omega⟩
    · intro h4
      refine ⟨by (omega), ?_⟩
      exact ⟨rfl, by omega⟩
set_option maxRecDepth 100000 in
set_option maxHeartbeats 4000000 in
theorem am_X8_isShape {σ : zS} {k : Int} : zAM 81 [.inl k] σ (fun (v : Int) (u : zS) => σ = u ∧ (v = 1 ∧ (0 ≤ k ∧ k < 12) ∨ v = 0 ∧ ¬ (0 ≤ k ∧ k < 12))) := by
  refine zam (by decide) (Nat.le_of_ble_eq_true rfl) ?_
  refine zwalk zmk_81 [] 3 ?_
  show ((k < 0 → (((0 : Int) = 0 ∨ (0 : Int) = 1) ∧ (σ = σ ∧ ((0 : Int) = 1 ∧ (0 ≤ k ∧ k < 12) ∨ (0 : Int) = 0 ∧ ¬ (0 ≤ k ∧ k < 12))))) ∧ (0 ≤ k → (((12 : Int) ≤ k → (((0 : Int) = 0 ∨ (0 : Int) = 1) ∧ (σ = σ ∧ ((0 : Int) = 1 ∧ (0 ≤ k ∧ k < 12) ∨ (0 : Int) = 0 ∧ ¬ (0 ≤ k ∧ k < 12))))) ∧ (k < (12 : Int) → (((1 : Int) = 0 ∨ (1 : Int) = 1) ∧ (σ = σ ∧ ((1 : Int) = 1 ∧ (0 ≤ k ∧ k < 12) ∨ (1 : Int) = 0 ∧ ¬ (0 ≤ k ∧ k < 12))))))))
  refine ⟨?_, ?_⟩
  · intro h1
    refine ⟨by (omega), ?_⟩
    exact ⟨rfl, by omega⟩
  · intro h2
    refine ⟨?_, ?_⟩
    · intro h3
      refine ⟨by (omega), ?_⟩
      exact ⟨rfl, by omega⟩
    · intro h4
      refine ⟨by (omega), ?_⟩
      exact ⟨rfl, by omega⟩
set_option maxRecDepth 100000 in
set_option maxHeartbeats 4000000 in
theorem am_X8_isInk {σ : zS} {k : Int} : zAM 79 [.inr (.inr (0, 0)), .inl k] σ (fun (v : Int) (u : zS) => σ = u ∧ (v = 1 ∧ (0 ≤ k ∧ k < σ 2 10) ∨ v = 0 ∧ ¬ (0 ≤ k ∧ k < σ 2 10))) := by
  refine zam (by decide) (Nat.le_of_ble_eq_true rfl) ?_
  refine zwalk zmk_79 [] 3 ?_
  show ((k < 0 → (((0 : Int) = 0 ∨ (0 : Int) = 1) ∧ (σ = σ ∧ ((0 : Int) = 1 ∧ (0 ≤ k ∧ k < σ 2 10) ∨ (0 : Int) = 0 ∧ ¬ (0 ≤ k ∧ k < σ 2 10))))) ∧ (0 ≤ k → (((σ 2 (10 : Int)) ≤ k → (((0 : Int) = 0 ∨ (0 : Int) = 1) ∧ (σ = σ ∧ ((0 : Int) = 1 ∧ (0 ≤ k ∧ k < σ 2 10) ∨ (0 : Int) = 0 ∧ ¬ (0 ≤ k ∧ k < σ 2 10))))) ∧ (k < (σ 2 (10 : Int)) → (((1 : Int) = 0 ∨ (1 : Int) = 1) ∧ (σ = σ ∧ ((1 : Int) = 1 ∧ (0 ≤ k ∧ k < σ 2 10) ∨ (1 : Int) = 0 ∧ ¬ (0 ≤ k ∧ k < σ 2 10))))))))
  refine ⟨?_, ?_⟩
  · intro h1
    refine ⟨by (omega), ?_⟩
    exact ⟨rfl, by omega⟩
  · intro h2
    refine ⟨?_, ?_⟩
    · intro h3
      refine ⟨by (omega), ?_⟩
      exact ⟨rfl, by omega⟩
    · intro h4
      refine ⟨by (omega), ?_⟩
      exact ⟨rfl, by omega⟩
set_option maxRecDepth 100000 in
set_option maxHeartbeats 4000000 in
theorem am_X9_in {σ : zS} {a : Int} {b : Int} {c : Int} : zAM 103 [.inr (.inl a), .inr (.inl b), .inr (.inl c)] σ (fun (v : Int) (u : zS) => σ = u ∧ (v = 1 ∧ (b ≤ a ∧ a ≤ c) ∨ v = 0 ∧ ¬ (b ≤ a ∧ a ≤ c))) := by
  refine zam (by decide) (Nat.le_of_ble_eq_true rfl) ?_
  refine zwalk zmk_103 [] 3 ?_
  show (((zcmp a b) < 0 → (((0 : Int) = 0 ∨ (0 : Int) = 1) ∧ (σ = σ ∧ ((0 : Int) = 1 ∧ (b ≤ a ∧ a ≤ c) ∨ (0 : Int) = 0 ∧ ¬ (b ≤ a ∧ a ≤ c))))) ∧ (0 ≤ (zcmp a b) → ((0 < (zcmp a c) → (((0 : Int) = 0 ∨ (0 : Int) = 1) ∧ (σ = σ ∧ ((0 : Int) = 1 ∧ (b ≤ a ∧ a ≤ c) ∨ (0 : Int) = 0 ∧ ¬ (b ≤ a ∧ a ≤ c))))) ∧ ((zcmp a c) ≤ 0 → (((1 : Int) = 0 ∨ (1 : Int) = 1) ∧ (σ = σ ∧ ((1 : Int) = 1 ∧ (b ≤ a ∧ a ≤ c) ∨ (1 : Int) = 0 ∧ ¬ (b ≤ a ∧ a ≤ c))))))))
  refine ⟨?_, ?_⟩
  · intro h1
    simp only [zc_lt, zc_ge, zc_gt, zc_le, zc_eq] at h1
    refine ⟨by (omega), ?_⟩
    exact ⟨rfl, by omega⟩
  · intro h2
    simp only [zc_lt, zc_ge, zc_gt, zc_le, zc_eq] at h2
    refine ⟨?_, ?_⟩
    · intro h3
      simp only [zc_lt, zc_ge, zc_gt, zc_le, zc_eq] at h3
      refine ⟨by (omega), ?_⟩
      exact ⟨rfl, by omega⟩
    · intro h4
      simp only [zc_lt, zc_ge, zc_gt, zc_le, zc_eq] at h4
      refine ⟨by (omega), ?_⟩
      exact ⟨rfl, by omega⟩
set_option maxRecDepth 100000 in
set_option maxHeartbeats 4000000 in
theorem am_X8_isRow {σ : zS} {n : Int} {a : Int} {b : Int} {c : Int} : zAM 82 [.inl n, .inl a, .inl b, .inl c] σ (fun (v : Int) (u : zS) => σ = u ∧ (v = 1 ∧ (1 ≤ n ∧ n ≤ 3 ∧ 0 ≤ a ∧ a < 12 ∧ (n < 2 ∨ 0 ≤ b ∧ b < 12) ∧ (n < 3 ∨ 0 ≤ c ∧ c < 12)) ∨ v = 0 ∧ ¬ (1 ≤ n ∧ n ≤ 3 ∧ 0 ≤ a ∧ a < 12 ∧ (n < 2 ∨ 0 ≤ b ∧ b < 12) ∧ (n < 3 ∨ 0 ≤ c ∧ c < 12)))) := by
  refine zam (by decide) (Nat.le_of_ble_eq_true rfl) ?_
  refine zwalk zmk_82 [] 5 ?_
  show ((n < (1 : Int) → (((0 : Int) = 0 ∨ (0 : Int) = 1) ∧ (σ = σ ∧ ((0 : Int) = 1 ∧ (1 ≤ n ∧ n ≤ 3 ∧ 0 ≤ a ∧ a < 12 ∧ (n < 2 ∨ 0 ≤ b ∧ b < 12) ∧ (n < 3 ∨ 0 ≤ c ∧ c < 12)) ∨ (0 : Int) = 0 ∧ ¬ (1 ≤ n ∧ n ≤ 3 ∧ 0 ≤ a ∧ a < 12 ∧ (n < 2 ∨ 0 ≤ b ∧ b < 12) ∧ (n < 3 ∨ 0 ≤ c ∧ c < 12)))))) ∧ ((1 : Int) ≤ n → (((3 : Int) < n → (((0 : Int) = 0 ∨ (0 : Int) = 1) ∧ (σ = σ ∧ ((0 : Int) = 1 ∧ (1 ≤ n ∧ n ≤ 3 ∧ 0 ≤ a ∧ a < 12 ∧ (n < 2 ∨ 0 ≤ b ∧ b < 12) ∧ (n < 3 ∨ 0 ≤ c ∧ c < 12)) ∨ (0 : Int) = 0 ∧ ¬ (1 ≤ n ∧ n ≤ 3 ∧ 0 ≤ a ∧ a < 12 ∧ (n < 2 ∨ 0 ≤ b ∧ b < 12) ∧ (n < 3 ∨ 0 ≤ c ∧ c < 12)))))) ∧ (n ≤ (3 : Int) → (∃ Rc : Int → zS → Prop, zAM 81 [.inl a] σ Rc ∧ ∀ (v1 : Int) (u1 : zS), zI v1 → Rc v1 u1 → ((v1 = 0 → (((0 : Int) = 0 ∨ (0 : Int) = 1) ∧ (σ = u1 ∧ ((0 : Int) = 1 ∧ (1 ≤ n ∧ n ≤ 3 ∧ 0 ≤ a ∧ a < 12 ∧ (n < 2 ∨ 0 ≤ b ∧ b < 12) ∧ (n < 3 ∨ 0 ≤ c ∧ c < 12)) ∨ (0 : Int) = 0 ∧ ¬ (1 ≤ n ∧ n ≤ 3 ∧ 0 ≤ a ∧ a < 12 ∧ (n < 2 ∨ 0 ≤ b ∧ b < 12) ∧ (n < 3 ∨ 0 ≤ c ∧ c < 12)))))) ∧ (¬ v1 = 0 → ((n < (2 : Int) → ((n < (3 : Int) → (((1 : Int) = 0 ∨ (1 : Int) = 1) ∧ (σ = u1 ∧ ((1 : Int) = 1 ∧ (1 ≤ n ∧ n ≤ 3 ∧ 0 ≤ a ∧ a < 12 ∧ (n < 2 ∨ 0 ≤ b ∧ b < 12) ∧ (n < 3 ∨ 0 ≤ c ∧ c < 12)) ∨ (1 : Int) = 0 ∧ ¬ (1 ≤ n ∧ n ≤ 3 ∧ 0 ≤ a ∧ a < 12 ∧ (n < 2 ∨ 0 ≤ b ∧ b < 12) ∧ (n < 3 ∨ 0 ≤ c ∧ c < 12)))))) ∧ ((3 : Int) ≤ n → (∃ Rc : Int → zS → Prop, zAM 81 [.inl c] u1 Rc ∧ ∀ (v2 : Int) (u2 : zS), zI v2 → Rc v2 u2 → ((v2 = 0 → (((0 : Int) = 0 ∨ (0 : Int) = 1) ∧ (σ = u2 ∧ ((0 : Int) = 1 ∧ (1 ≤ n ∧ n ≤ 3 ∧ 0 ≤ a ∧ a < 12 ∧ (n < 2 ∨ 0 ≤ b ∧ b < 12) ∧ (n < 3 ∨ 0 ≤ c ∧ c < 12)) ∨ (0 : Int) = 0 ∧ ¬ (1 ≤ n ∧ n ≤ 3 ∧ 0 ≤ a ∧ a < 12 ∧ (n < 2 ∨ 0 ≤ b ∧ b < 12) ∧ (n < 3 ∨ 0 ≤ c ∧ c < 12)))))) ∧ (¬ v2 = 0 → (((1 : Int) = 0 ∨ (1 : Int) = 1) ∧ (σ = u2 ∧ ((1 : Int) = 1 ∧ (1 ≤ n ∧ n ≤ 3 ∧ 0 ≤ a ∧ a < 12 ∧ (n < 2 ∨ 0 ≤ b ∧ b < 12) ∧ (n < 3 ∨ 0 ≤ c ∧ c < 12)) ∨ (1 : Int) = 0 ∧ ¬ (1 ≤ n ∧ n ≤ 3 ∧ 0 ≤ a ∧ a < 12 ∧ (n < 2 ∨ 0 ≤ b ∧ b < 12) ∧ (n < 3 ∨ 0 ≤ c ∧ c < 12))))))))))) ∧ ((2 : Int) ≤ n → (∃ Rc : Int → zS → Prop, zAM 81 [.inl b] u1 Rc ∧ ∀ (v3 : Int) (u3 : zS), zI v3 → Rc v3 u3 → ((v3 = 0 → (((0 : Int) = 0 ∨ (0 : Int) = 1) ∧ (σ = u3 ∧ ((0 : Int) = 1 ∧ (1 ≤ n ∧ n ≤ 3 ∧ 0 ≤ a ∧ a < 12 ∧ (n < 2 ∨ 0 ≤ b ∧ b < 12) ∧ (n < 3 ∨ 0 ≤ c ∧ c < 12)) ∨ (0 : Int) = 0 ∧ ¬ (1 ≤ n ∧ n ≤ 3 ∧ 0 ≤ a ∧ a < 12 ∧ (n < 2 ∨ 0 ≤ b ∧ b < 12) ∧ (n < 3 ∨ 0 ≤ c ∧ c < 12)))))) ∧ (¬ v3 = 0 → ((n < (3 : Int) → (((1 : Int) = 0 ∨ (1 : Int) = 1) ∧ (σ = u3 ∧ ((1 : Int) = 1 ∧ (1 ≤ n ∧ n ≤ 3 ∧ 0 ≤ a ∧ a < 12 ∧ (n < 2 ∨ 0 ≤ b ∧ b < 12) ∧ (n < 3 ∨ 0 ≤ c ∧ c < 12)) ∨ (1 : Int) = 0 ∧ ¬ (1 ≤ n ∧ n ≤ 3 ∧ 0 ≤ a ∧ a < 12 ∧ (n < 2 ∨ 0 ≤ b ∧ b < 12) ∧ (n < 3 ∨ 0 ≤ c ∧ c < 12)))))) ∧ ((3 : Int) ≤ n → (∃ Rc : Int → zS → Prop, zAM 81 [.inl c] u3 Rc ∧ ∀ (v4 : Int) (u4 : zS), zI v4 → Rc v4 u4 → ((v4 = 0 → (((0 : Int) = 0 ∨ (0 : Int) = 1) ∧ (σ = u4 ∧ ((0 : Int) = 1 ∧ (1 ≤ n ∧ n ≤ 3 ∧ 0 ≤ a ∧ a < 12 ∧ (n < 2 ∨ 0 ≤ b ∧ b < 12) ∧ (n < 3 ∨ 0 ≤ c ∧ c < 12)) ∨ (0 : Int) = 0 ∧ ¬ (1 ≤ n ∧ n ≤ 3 ∧ 0 ≤ a ∧ a < 12 ∧ (n < 2 ∨ 0 ≤ b ∧ b < 12) ∧ (n < 3 ∨ 0 ≤ c ∧ c < 12)))))) ∧ (¬ v4 = 0 → (((1 : Int) = 0 ∨ (1 : Int) = 1) ∧ (σ = u4 ∧ ((1 : Int) = 1 ∧ (1 ≤ n ∧ n ≤ 3 ∧ 0 ≤ a ∧ a < 12 ∧ (n < 2 ∨ 0 ≤ b ∧ b < 12) ∧ (n < 3 ∨ 0 ≤ c ∧ c < 12)) ∨ (1 : Int) = 0 ∧ ¬ (1 ≤ n ∧ n ≤ 3 ∧ 0 ≤ a ∧ a < 12 ∧ (n < 2 ∨ 0 ≤ b ∧ b < 12) ∧ (n < 3 ∨ 0 ≤ c ∧ c < 12))))))))))))))))))))))
  refine ⟨?_, ?_⟩
  · intro h1
    refine ⟨by (omega), ?_⟩
    exact ⟨rfl, by omega⟩
  · intro h2
    refine ⟨?_, ?_⟩
    · intro h3
      refine ⟨by (omega), ?_⟩
      exact ⟨rfl, by omega⟩
    · intro h4
      refine ⟨_, am_X8_isShape, ?_⟩
      intro v1 u1 hv1
      rintro ⟨rfl, (⟨rfl, cv1⟩ | ⟨rfl, cv1⟩)⟩
      · refine ⟨?_, ?_⟩
        · exact fun h => absurd h (by decide)
        · intro _
          refine ⟨?_, ?_⟩
          · intro h6
            refine ⟨?_, ?_⟩
            · intro h7
              refine ⟨by (omega), ?_⟩
              exact ⟨rfl, by omega⟩
            · intro h8
              refine ⟨_, am_X8_isShape, ?_⟩
              intro v2 u2 hv2
              rintro ⟨rfl, (⟨rfl, cv2⟩ | ⟨rfl, cv2⟩)⟩
              · refine ⟨?_, ?_⟩
                · exact fun h => absurd h (by decide)
                · intro _
                  refine ⟨by (omega), ?_⟩
                  exact ⟨rfl, by omega⟩
              · refine ⟨?_, ?_⟩
                · intro _
                  refine ⟨by (omega), ?_⟩
                  exact ⟨rfl, by omega⟩
                · exact fun h => absurd h (by decide)
          · intro h11
            refine ⟨_, am_X8_isShape, ?_⟩
            intro v3 u3 hv3
            rintro ⟨rfl, (⟨rfl, cv3⟩ | ⟨rfl, cv3⟩)⟩
            · refine ⟨?_, ?_⟩
              · exact fun h => absurd h (by decide)
              · intro _
                refine ⟨?_, ?_⟩
                · intro h13
                  refine ⟨by (omega), ?_⟩
                  exact ⟨rfl, by omega⟩
                · intro h14
                  refine ⟨_, am_X8_isShape, ?_⟩
                  intro v4 u4 hv4
                  rintro ⟨rfl, (⟨rfl, cv4⟩ | ⟨rfl, cv4⟩)⟩
                  · refine ⟨?_, ?_⟩
                    · exact fun h => absurd h (by decide)
                    · intro _
                      refine ⟨by (omega), ?_⟩
                      exact ⟨rfl, by omega⟩
                  · refine ⟨?_, ?_⟩
                    · intro _
                      refine ⟨by (omega), ?_⟩
                      exact ⟨rfl, by omega⟩
                    · exact fun h => absurd h (by decide)
            · refine ⟨?_, ?_⟩
              · intro _
                refine ⟨by (omega), ?_⟩
                exact ⟨rfl, by omega⟩
              · exact fun h => absurd h (by decide)
      · refine ⟨?_, ?_⟩
        · intro _
          refine ⟨by (omega), ?_⟩
          exact ⟨rfl, by omega⟩
        · exact fun h => absurd h (by decide)
set_option maxRecDepth 100000 in
set_option maxHeartbeats 4000000 in
theorem am_X8_found {σ : zS} {k : Int} (hk : 0 ≤ k ∧ k ≤ 5) : zAM 76 [.inr (.inr (0, 0)), .inl k] σ (fun (v : Int) (u : zS) => zup σ 0 11 k = u ∧ -1000010 - k = v) := by
  refine zam (by decide) (Nat.le_of_ble_eq_true rfl) ?_
  refine zwalk zmk_76 [] 2 ?_
  show (zI ((-1000010 : Int) - k) ∧ (zup σ 0 11 k = (zup σ 0 (11 : Int) k) ∧ -1000010 - k = ((-1000010 : Int) - k)))
  refine ⟨by (exact ⟨by omega, by omega⟩), ?_⟩
  exact ⟨rfl, rfl⟩
set_option maxRecDepth 100000 in
set_option maxHeartbeats 4000000 in
theorem am_X8_fine {σ : zS} {k : Int} : zAM 77 [.inr (.inr (0, 0)), .inl k] σ (fun (v : Int) (u : zS) => zup σ 0 11 0 = u ∧ k = v) := by
  refine zam (by decide) (Nat.le_of_ble_eq_true rfl) ?_
  refine zwalk zmk_77 [] 2 ?_
  show (zup σ 0 11 0 = (zup σ 0 (11 : Int) (0 : Int)) ∧ k = k)
  exact ⟨rfl, rfl⟩
theorem zRuns.mono {i : Nat} {X : zX} {R R' : Int → zS → Prop} {pc : Nat} {L : zL} {st : List zV} {σ : zS} (hR : ∀ v u, R v u → R' v u) (h : zRuns i X R pc L st σ) : zRuns i X R' pc L st σ := by
  intro hw hL hs p l e s m args below meth c D ad ct AA H locs ls cells slots Q fx en wo lo
  exact h hw hL hs p l e s m args below meth c D ad ct AA H locs ls cells slots Q fx (fun v u H locs ls pc hr => en v u H locs ls pc (hR v u hr)) wo lo
def zfill (σ : zS) (k : Nat) (o n v : Int) : zS := fun k' i => if k' = k ∧ o ≤ i ∧ i < o + n then v else σ k' i
theorem zfill_0 {σ : zS} {k : Nat} {o v : Int} : zfill σ k o 0 v = σ := by
  funext k' i
  exact if_neg (by omega)
theorem zfill_s {σ : zS} {k : Nat} {o n v : Int} (h : 0 ≤ n) : zup (zfill σ k o n v) k (o + n) v = zfill σ k o (n + 1) v := by
  funext k' i
  simp only [zup, zfill]
  by_cases e : k' = k
  · rw [if_pos e]
    by_cases f : i = o + n
    · rw [if_pos f, if_pos ⟨e, by omega, by omega⟩]
    · rw [if_neg f]
      by_cases g : o ≤ i ∧ i < o + n
      · rw [if_pos ⟨e, g⟩, if_pos ⟨e, by omega, by omega⟩]
      · rw [if_neg (fun q => g q.2), if_neg (fun q => by omega)]
  · rw [if_neg e, if_neg (fun q => e q.1), if_neg (fun q => e q.1)]
set_option maxRecDepth 100000 in
set_option maxHeartbeats 4000000 in
theorem lp_fill_row {o : Int} {x : Int} {τ : zS} : ∀ (n : Nat) (i : Int) (σ : zS), 80 - i < (n : Int) → (0 ≤ i) → (i ≤ 80) → (σ = zfill τ 65 o i x) → zRuns 158 zX0 (fun (v : Int) (u : zS) => zfill τ 65 o 80 x = u) 5 [some (.inr (.inr (65, o))), some (.inl x), some (.inl i), some (.inl 80)] [] σ := by
  intro n
  induction n with
  | zero =>
    intro i σ hn hi hi2 hσ
    exfalso
    omega
  | succ n ih =>
    intro i σ hn hi hi2 hσ
    refine zwalk zmk_158 [(5, [true, true, true, true])] 3 ?_
    show ((80 ≤ i → (zfill τ 65 o 80 x = σ)) ∧ (i < 80 → ((0 ≤ i ∧ i < 80) ∧ (zI (i + (1 : Int)) ∧ zRuns 158 zX0 (fun (v : Int) (u : zS) => zfill τ 65 o 80 x = u) 5 [some (.inr (.inr (65, o))), some (.inl x), some (.inl (i + (1 : Int))), some (.inl 80)] [] (zup σ 65 (o + i) x)))))
    refine ⟨?_, ?_⟩
    · intro h1
      have : i = 80 := by omega
      rw [this] at hσ; exact hσ.symm
    · intro h2
      refine ⟨by (first | omega | exact ⟨by omega, by omega⟩ | exact ⟨by omega, by omega, by omega⟩ | exact ⟨by omega, by omega, by omega, by omega, by omega⟩), ?_⟩
      refine ⟨by (exact ⟨by omega, by omega⟩), ?_⟩
      exact ih _ _ (by omega) (by omega) (by omega) (by rw [hσ]; exact zfill_s hi)
set_option maxRecDepth 100000 in
set_option maxHeartbeats 4000000 in
theorem am_fill_row {σ : zS} {o : Int} {x : Int} : zAM 158 [.inr (.inr (65, o)), .inl x] σ (fun (v : Int) (u : zS) => zfill σ 65 o 80 x = u) := by
  refine zam (by decide) (Nat.le_of_ble_eq_true rfl) ?_
  refine zwalk zmk_158 [(5, [true, true, true, true])] 2 ?_
  show zRuns 158 zX0 (fun (v : Int) (u : zS) => zfill σ 65 o 80 x = u) 5 [some (.inr (.inr (65, o))), some (.inl x), some (.inl (0 : Int)), some (.inl 80)] [] σ
  exact lp_fill_row 81 0 _ (by omega) (by omega) (by omega) zfill_0.symm
set_option maxRecDepth 100000 in
set_option maxHeartbeats 4000000 in
theorem lp_fill_costs {x : Int} {τ : zS} : ∀ (n : Nat) (i : Int) (σ : zS), 1092 - i < (n : Int) → (0 ≤ i) → (i ≤ 1092) → (σ = zfill τ 29 0 i x) → zRuns 158 zX0 (fun (v : Int) (u : zS) => zfill τ 29 0 1092 x = u) 5 [some (.inr (.inr (29, 0))), some (.inl x), some (.inl i), some (.inl (1092 : Int))] [] σ := by
  intro n
  induction n with
  | zero =>
    intro i σ hn hi hi2 hσ
    exfalso
    omega
  | succ n ih =>
    intro i σ hn hi hi2 hσ
    refine zwalk zmk_158 [(5, [true, true, true, true])] 3 ?_
    show (((1092 : Int) ≤ i → (zfill τ 29 0 1092 x = σ)) ∧ (i < (1092 : Int) → ((0 ≤ i ∧ i < (1092 : Int)) ∧ (zI (i + (1 : Int)) ∧ zRuns 158 zX0 (fun (v : Int) (u : zS) => zfill τ 29 0 1092 x = u) 5 [some (.inr (.inr (29, 0))), some (.inl x), some (.inl (i + (1 : Int))), some (.inl (1092 : Int))] [] (zup σ 29 i x)))))
    refine ⟨?_, ?_⟩
    · intro h1
      have : i = 1092 := by omega
      rw [this] at hσ; exact hσ.symm
    · intro h2
      refine ⟨by (first | omega | exact ⟨by omega, by omega⟩ | exact ⟨by omega, by omega, by omega⟩ | exact ⟨by omega, by omega, by omega, by omega, by omega⟩), ?_⟩
      refine ⟨by (exact ⟨by omega, by omega⟩), ?_⟩
      exact ih _ _ (by omega) (by omega) (by omega) (by rw [hσ]; have h9 := zfill_s (σ := τ) (k := 29) (o := 0) (v := x) hi; rwa [Int.zero_add] at h9)
set_option maxRecDepth 100000 in
set_option maxHeartbeats 4000000 in
theorem am_fill_costs {σ : zS} {x : Int} : zAM 158 [.inr (.inr (29, 0)), .inl x] σ (fun (v : Int) (u : zS) => zfill σ 29 0 1092 x = u) := by
  refine zam (by decide) (Nat.le_of_ble_eq_true rfl) ?_
  refine zwalk zmk_158 [(5, [true, true, true, true])] 2 ?_
  show zRuns 158 zX0 (fun (v : Int) (u : zS) => zfill σ 29 0 1092 x = u) 5 [some (.inr (.inr (29, 0))), some (.inl x), some (.inl (0 : Int)), some (.inl (1092 : Int))] [] σ
  exact lp_fill_costs 1093 0 _ (by omega) (by omega) (by omega) zfill_0.symm
set_option maxRecDepth 100000 in
set_option maxHeartbeats 4000000 in
theorem lp_fill_least {x : Int} {τ : zS} : ∀ (n : Nat) (i : Int) (σ : zS), 195 - i < (n : Int) → (0 ≤ i) → (i ≤ 195) → (σ = zfill τ 33 0 i x) → zRuns 158 zX0 (fun (v : Int) (u : zS) => zfill τ 33 0 195 x = u) 5 [some (.inr (.inr (33, 0))), some (.inl x), some (.inl i), some (.inl (195 : Int))] [] σ := by
  intro n
  induction n with
  | zero =>
    intro i σ hn hi hi2 hσ
    exfalso
    omega
  | succ n ih =>
    intro i σ hn hi hi2 hσ
    refine zwalk zmk_158 [(5, [true, true, true, true])] 3 ?_
    show (((195 : Int) ≤ i → (zfill τ 33 0 195 x = σ)) ∧ (i < (195 : Int) → ((0 ≤ i ∧ i < (195 : Int)) ∧ (zI (i + (1 : Int)) ∧ zRuns 158 zX0 (fun (v : Int) (u : zS) => zfill τ 33 0 195 x = u) 5 [some (.inr (.inr (33, 0))), some (.inl x), some (.inl (i + (1 : Int))), some (.inl (195 : Int))] [] (zup σ 33 i x)))))
    refine ⟨?_, ?_⟩
    · intro h1
      have : i = 195 := by omega
      rw [this] at hσ; exact hσ.symm
    · intro h2
      refine ⟨by (first | omega | exact ⟨by omega, by omega⟩ | exact ⟨by omega, by omega, by omega⟩ | exact ⟨by omega, by omega, by omega, by omega, by omega⟩), ?_⟩
      refine ⟨by (exact ⟨by omega, by omega⟩), ?_⟩
      exact ih _ _ (by omega) (by omega) (by omega) (by rw [hσ]; have h9 := zfill_s (σ := τ) (k := 33) (o := 0) (v := x) hi; rwa [Int.zero_add] at h9)
set_option maxRecDepth 100000 in
set_option maxHeartbeats 4000000 in
theorem am_fill_least {σ : zS} {x : Int} : zAM 158 [.inr (.inr (33, 0)), .inl x] σ (fun (v : Int) (u : zS) => zfill σ 33 0 195 x = u) := by
  refine zam (by decide) (Nat.le_of_ble_eq_true rfl) ?_
  refine zwalk zmk_158 [(5, [true, true, true, true])] 2 ?_
  show zRuns 158 zX0 (fun (v : Int) (u : zS) => zfill σ 33 0 195 x = u) 5 [some (.inr (.inr (33, 0))), some (.inl x), some (.inl (0 : Int)), some (.inl (195 : Int))] [] σ
  exact lp_fill_least 196 0 _ (by omega) (by omega) (by omega) zfill_0.symm
set_option maxRecDepth 100000 in
set_option maxHeartbeats 4000000 in
theorem am_X5_lay {σ : zS} {s : Int} {a : Int} {n : Int} (hs : 0 ≤ s ∧ s < 8) : zAM 39 [.inr (.inr (1, 0)), .inl s, .inl a, .inl n] σ (fun (v : Int) (u : zS) => zfill (zup (zup (zup σ 11 s 1) 12 s a) 13 s n) 65 (80 * s) 80 0 = u) := by
  refine zam (by decide) (Nat.le_of_ble_eq_true rfl) ?_
  refine zwalk zmk_39 [] 2 ?_
  show ((((1 : Int) = 0 ∨ (1 : Int) = 1) ∧ 0 ≤ s ∧ s < (8 : Int)) ∧ ((0 ≤ s ∧ s < (8 : Int)) ∧ ((0 ≤ s ∧ s < (8 : Int)) ∧ ((0 ≤ s ∧ s < 8) ∧ (∃ Rc : Int → zS → Prop, zAM 158 [.inr (.inr (65, (80 * s))), .inl (0 : Int)] (zup (zup (zup σ 11 s (1 : Int)) 12 s a) 13 s n) Rc ∧ ∀ (u1 : zS), Rc 0 u1 → (zfill (zup (zup (zup σ 11 s 1) 12 s a) 13 s n) 65 (80 * s) 80 0 = u1))))))
  refine ⟨by (first | omega | exact ⟨by omega, by omega⟩ | exact ⟨by omega, by omega, by omega⟩ | exact ⟨by omega, by omega, by omega, by omega, by omega⟩), ?_⟩
  refine ⟨by (first | omega | exact ⟨by omega, by omega⟩ | exact ⟨by omega, by omega, by omega⟩ | exact ⟨by omega, by omega, by omega, by omega, by omega⟩), ?_⟩
  refine ⟨by (first | omega | exact ⟨by omega, by omega⟩ | exact ⟨by omega, by omega, by omega⟩ | exact ⟨by omega, by omega, by omega, by omega, by omega⟩), ?_⟩
  refine ⟨by (first | omega | exact ⟨by omega, by omega⟩ | exact ⟨by omega, by omega, by omega⟩ | exact ⟨by omega, by omega, by omega, by omega, by omega⟩), ?_⟩
  refine ⟨_, am_fill_row, ?_⟩
  intro u1
  rintro rfl
  rfl
set_option maxRecDepth 100000 in
set_option maxHeartbeats 4000000 in
theorem am_X5_reaches {σ : zS} {s : Int} {i : Int} {n : Int} (hs : 0 ≤ s ∧ s < 8) : zAM 40 [.inr (.inr (1, 0)), .inl s, .inl i, .inl n] σ (fun (v : Int) (u : zS) => σ = u ∧ (v = 1 ∧ (0 ≤ i ∧ 0 ≤ n ∧ i ≤ σ 13 s ∧ n ≤ σ 13 s - i) ∨ v = 0 ∧ ¬ (0 ≤ i ∧ 0 ≤ n ∧ i ≤ σ 13 s ∧ n ≤ σ 13 s - i))) := by
  refine zam (by decide) (Nat.le_of_ble_eq_true rfl) ?_
  refine zRuns.wf (fun hw hL => ?_)
  refine zwalk zmk_40 [] 3 ?_
  show ((i < 0 → (((0 : Int) = 0 ∨ (0 : Int) = 1) ∧ (σ = σ ∧ ((0 : Int) = 1 ∧ (0 ≤ i ∧ 0 ≤ n ∧ i ≤ σ 13 s ∧ n ≤ σ 13 s - i) ∨ (0 : Int) = 0 ∧ ¬ (0 ≤ i ∧ 0 ≤ n ∧ i ≤ σ 13 s ∧ n ≤ σ 13 s - i))))) ∧ (0 ≤ i → ((n < 0 → (((0 : Int) = 0 ∨ (0 : Int) = 1) ∧ (σ = σ ∧ ((0 : Int) = 1 ∧ (0 ≤ i ∧ 0 ≤ n ∧ i ≤ σ 13 s ∧ n ≤ σ 13 s - i) ∨ (0 : Int) = 0 ∧ ¬ (0 ≤ i ∧ 0 ≤ n ∧ i ≤ σ 13 s ∧ n ≤ σ 13 s - i))))) ∧ (0 ≤ n → ((0 ≤ s ∧ s < (8 : Int)) ∧ (((σ 13 s) < i → (((0 : Int) = 0 ∨ (0 : Int) = 1) ∧ (σ = σ ∧ ((0 : Int) = 1 ∧ (0 ≤ i ∧ 0 ≤ n ∧ i ≤ σ 13 s ∧ n ≤ σ 13 s - i) ∨ (0 : Int) = 0 ∧ ¬ (0 ≤ i ∧ 0 ≤ n ∧ i ≤ σ 13 s ∧ n ≤ σ 13 s - i))))) ∧ (i ≤ (σ 13 s) → ((0 ≤ s ∧ s < (8 : Int)) ∧ (zI ((σ 13 s) - i) ∧ ((((σ 13 s) - i) < n → (((0 : Int) = 0 ∨ (0 : Int) = 1) ∧ (σ = σ ∧ ((0 : Int) = 1 ∧ (0 ≤ i ∧ 0 ≤ n ∧ i ≤ σ 13 s ∧ n ≤ σ 13 s - i) ∨ (0 : Int) = 0 ∧ ¬ (0 ≤ i ∧ 0 ≤ n ∧ i ≤ σ 13 s ∧ n ≤ σ 13 s - i))))) ∧ (n ≤ ((σ 13 s) - i) → (((1 : Int) = 0 ∨ (1 : Int) = 1) ∧ (σ = σ ∧ ((1 : Int) = 1 ∧ (0 ≤ i ∧ 0 ≤ n ∧ i ≤ σ 13 s ∧ n ≤ σ 13 s - i) ∨ (1 : Int) = 0 ∧ ¬ (0 ≤ i ∧ 0 ≤ n ∧ i ≤ σ 13 s ∧ n ≤ σ 13 s - i)))))))))))))))
  have w13 := (hw 13 s).2 rfl
  obtain ⟨w1, w2⟩ := w13
  refine ⟨?_, ?_⟩
  · intro h1
    refine ⟨by (omega), ?_⟩
    exact ⟨rfl, by omega⟩
  · intro h2
    refine ⟨?_, ?_⟩
    · intro h3
      refine ⟨by (omega), ?_⟩
      exact ⟨rfl, by omega⟩
    · intro h4
      refine ⟨by (first | omega | exact ⟨by omega, by omega⟩ | exact ⟨by omega, by omega, by omega⟩ | exact ⟨by omega, by omega, by omega, by omega, by omega⟩), ?_⟩
      refine ⟨?_, ?_⟩
      · intro h5
        refine ⟨by (omega), ?_⟩
        exact ⟨rfl, by omega⟩
      · intro h6
        refine ⟨by (first | omega | exact ⟨by omega, by omega⟩ | exact ⟨by omega, by omega, by omega⟩ | exact ⟨by omega, by omega, by omega, by omega, by omega⟩), ?_⟩
        refine ⟨by (exact ⟨by omega, by omega⟩), ?_⟩
        refine ⟨?_, ?_⟩
        · intro h7
          refine ⟨by (omega), ?_⟩
          exact ⟨rfl, by omega⟩
        · intro h8
          refine ⟨by (omega), ?_⟩
          exact ⟨rfl, by omega⟩
def zb8 (x : Int) : Int := (Int32.ofInt x).toInt8.toInt32.toInt
def zs16 (x : Int) : Int := (Int32.ofInt x).toInt16.toInt32.toInt
def zlane (a x : Int) : Int := if a = 0 then zb8 x else if a = 1 then zs16 x else x
set_option maxRecDepth 100000 in
set_option maxHeartbeats 4000000 in
theorem am_X5_put {σ : zS} {s : Int} {i : Int} {x : Int} (hs : 0 ≤ s ∧ s < 8) (hi : 0 ≤ i ∧ i < 80) : zAM 41 [.inr (.inr (1, 0)), .inl s, .inl i, .inl x] σ (fun (v : Int) (u : zS) => zup σ 65 (80 * s + i) (zlane (σ 12 s) x) = u ∧ zlane (σ 12 s) x = v) := by
  refine zam (by decide) (Nat.le_of_ble_eq_true rfl) ?_
  refine zwalk zmk_41 [] 4 ?_
  show ((0 ≤ s ∧ s < (8 : Int)) ∧ ((¬ (σ 12 s) = 0 → ((0 ≤ s ∧ s < (8 : Int)) ∧ ((¬ (σ 12 s) = (1 : Int) → ((0 ≤ s ∧ s < 8) ∧ ((0 ≤ i ∧ i < 80) ∧ (zup σ 65 (80 * s + i) (zlane (σ 12 s) x) = (zup σ 65 ((80 * s) + i) x) ∧ zlane (σ 12 s) x = x)))) ∧ ((σ 12 s) = (1 : Int) → ((0 ≤ s ∧ s < 8) ∧ ((0 ≤ i ∧ i < 80) ∧ (zup σ 65 (80 * s + i) (zlane (σ 12 s) x) = (zup σ 65 ((80 * s) + i) (Int32.ofInt x).toInt16.toInt32.toInt) ∧ zlane (σ 12 s) x = (Int32.ofInt x).toInt16.toInt32.toInt))))))) ∧ ((σ 12 s) = 0 → ((0 ≤ s ∧ s < 8) ∧ ((0 ≤ i ∧ i < 80) ∧ (zup σ 65 (80 * s + i) (zlane (σ 12 s) x) = (zup σ 65 ((80 * s) + i) (Int32.ofInt x).toInt8.toInt32.toInt) ∧ zlane (σ 12 s) x = (Int32.ofInt x).toInt8.toInt32.toInt))))))
  refine ⟨by (first | omega | exact ⟨by omega, by omega⟩ | exact ⟨by omega, by omega, by omega⟩ | exact ⟨by omega, by omega, by omega, by omega, by omega⟩), ?_⟩
  refine ⟨?_, ?_⟩
  · intro h1
    refine ⟨by (first | omega | exact ⟨by omega, by omega⟩ | exact ⟨by omega, by omega, by omega⟩ | exact ⟨by omega, by omega, by omega, by omega, by omega⟩), ?_⟩
    refine ⟨?_, ?_⟩
    · intro h2
      refine ⟨by (first | omega | exact ⟨by omega, by omega⟩ | exact ⟨by omega, by omega, by omega⟩ | exact ⟨by omega, by omega, by omega, by omega, by omega⟩), ?_⟩
      refine ⟨by (first | omega | exact ⟨by omega, by omega⟩ | exact ⟨by omega, by omega, by omega⟩ | exact ⟨by omega, by omega, by omega, by omega, by omega⟩), ?_⟩
      have e : zlane (σ 12 s) x = x := by unfold zlane; rw [if_neg (by omega), if_neg (by omega)]
      rw [e]; exact ⟨rfl, rfl⟩
    · intro h3
      refine ⟨by (first | omega | exact ⟨by omega, by omega⟩ | exact ⟨by omega, by omega, by omega⟩ | exact ⟨by omega, by omega, by omega, by omega, by omega⟩), ?_⟩
      refine ⟨by (first | omega | exact ⟨by omega, by omega⟩ | exact ⟨by omega, by omega, by omega⟩ | exact ⟨by omega, by omega, by omega, by omega, by omega⟩), ?_⟩
      have e : zlane (σ 12 s) x = zs16 x := by unfold zlane; rw [if_neg (by omega), if_pos (by omega)]
      rw [e]; exact ⟨rfl, rfl⟩
  · intro h4
    refine ⟨by (first | omega | exact ⟨by omega, by omega⟩ | exact ⟨by omega, by omega, by omega⟩ | exact ⟨by omega, by omega, by omega, by omega, by omega⟩), ?_⟩
    refine ⟨by (first | omega | exact ⟨by omega, by omega⟩ | exact ⟨by omega, by omega, by omega⟩ | exact ⟨by omega, by omega, by omega, by omega, by omega⟩), ?_⟩
    have e : zlane (σ 12 s) x = zb8 x := by unfold zlane; rw [if_pos (by omega)]
    rw [e]; exact ⟨rfl, rfl⟩
