set_option maxRecDepth 100000 in
set_option maxHeartbeats 4000000 in
theorem am_X9_finds {σ : zS} {f : Int} (hk : 0 ≤ f ∧ f ≤ 5) : zAM 104 [.inr (.inr (9, 0)), .inl f] σ (fun (v : Int) (u : zS) => zup σ 9 4 f = u ∧ -1000010 - f = v) := by
  refine zam (by decide) (Nat.le_of_ble_eq_true rfl) ?_
  refine zwalk zmk_104 [] 2 ?_
  show (zI ((-1000010 : Int) - f) ∧ (zup σ 9 4 f = (zup σ 9 (4 : Int) f) ∧ -1000010 - f = ((-1000010 : Int) - f)))
  refine ⟨by (exact ⟨by omega, by omega⟩), ?_⟩
  exact ⟨rfl, rfl⟩
set_option maxRecDepth 100000 in
set_option maxHeartbeats 4000000 in
theorem am_X9_well {σ : zS} {x : Int} : zAM 105 [.inr (.inr (9, 0)), .inl x] σ (fun (v : Int) (u : zS) => zup σ 9 4 0 = u ∧ x = v) := by
  refine zam (by decide) (Nat.le_of_ble_eq_true rfl) ?_
  refine zwalk zmk_105 [] 2 ?_
  show (zup σ 9 4 0 = (zup σ 9 (4 : Int) (0 : Int)) ∧ x = x)
  exact ⟨rfl, rfl⟩
set_option maxRecDepth 100000 in
set_option maxHeartbeats 4000000 in
theorem am_X9_isSheet {σ : zS} {k : Int} : zAM 106 [.inl k] σ (fun (v : Int) (u : zS) => σ = u ∧ (v = 1 ∧ (0 ≤ k ∧ k < 8) ∨ v = 0 ∧ ¬ (0 ≤ k ∧ k < 8))) := by
  refine zam (by decide) (Nat.le_of_ble_eq_true rfl) ?_
  refine zwalk zmk_106 [] 2 ?_
  show (∃ Rc : Int → zS → Prop, zAM 103 [.inr (.inl k), .inr (.inl (0 : Int)), .inr (.inl (7 : Int))] σ Rc ∧ ∀ (v1 : Int) (u1 : zS), zI v1 → Rc v1 u1 → ((v1 = 0 ∨ v1 = 1) ∧ (σ = u1 ∧ (v1 = 1 ∧ (0 ≤ k ∧ k < 8) ∨ v1 = 0 ∧ ¬ (0 ≤ k ∧ k < 8)))))
  refine ⟨_, am_X9_in, ?_⟩
  intro v1 u1 hv1
  rintro ⟨rfl, (⟨rfl, cv1⟩ | ⟨rfl, cv1⟩)⟩
  · refine ⟨by (omega), ?_⟩
    exact ⟨rfl, by omega⟩
  · refine ⟨by (omega), ?_⟩
    exact ⟨rfl, by omega⟩
set_option maxRecDepth 100000 in
set_option maxHeartbeats 4000000 in
theorem am_X9_isInk {σ : zS} {k : Int} (hi : 0 ≤ σ 9 13 ∧ σ 9 13 ≤ 40) : zAM 116 [.inr (.inr (9, 0)), .inl k] σ (fun (v : Int) (u : zS) => σ = u ∧ (v = 1 ∧ (0 ≤ k ∧ k < σ 9 13) ∨ v = 0 ∧ ¬ (0 ≤ k ∧ k < σ 9 13))) := by
  refine zam (by decide) (Nat.le_of_ble_eq_true rfl) ?_
  refine zwalk zmk_116 [] 2 ?_
  show (zI ((σ 9 (13 : Int)) - (1 : Int)) ∧ (∃ Rc : Int → zS → Prop, zAM 103 [.inr (.inl k), .inr (.inl (0 : Int)), .inr (.inl ((σ 9 (13 : Int)) - (1 : Int)))] σ Rc ∧ ∀ (v1 : Int) (u1 : zS), zI v1 → Rc v1 u1 → ((v1 = 0 ∨ v1 = 1) ∧ (σ = u1 ∧ (v1 = 1 ∧ (0 ≤ k ∧ k < σ 9 13) ∨ v1 = 0 ∧ ¬ (0 ≤ k ∧ k < σ 9 13))))))
  refine ⟨by (exact ⟨by omega, by omega⟩), ?_⟩
  refine ⟨_, am_X9_in, ?_⟩
  intro v1 u1 hv1
  rintro ⟨rfl, (⟨rfl, cv1⟩ | ⟨rfl, cv1⟩)⟩
  · refine ⟨by (omega), ?_⟩
    exact ⟨rfl, by omega⟩
  · refine ⟨by (omega), ?_⟩
    exact ⟨rfl, by omega⟩
set_option maxRecDepth 100000 in
set_option maxHeartbeats 4000000 in
theorem am_X9_many {σ : zS} {i : Int} (hi : 0 ≤ i ∧ i < 40) (hb : 0 ≤ σ 45 i ∧ σ 45 i ≤ 40) (hc : 0 ≤ σ 45 (i + 1) ∧ σ 45 (i + 1) ≤ 40) : zAM 117 [.inr (.inr (9, 0)), .inl i] σ (fun (v : Int) (u : zS) => σ = u ∧ (σ 45 (i + 1) - σ 45 i) = v) := by
  refine zam (by decide) (Nat.le_of_ble_eq_true rfl) ?_
  refine zwalk zmk_117 [] 2 ?_
  show (zI (i + (1 : Int)) ∧ ((0 ≤ (i + (1 : Int)) ∧ (i + (1 : Int)) < (41 : Int)) ∧ ((0 ≤ i ∧ i < (41 : Int)) ∧ (zI ((σ 45 (i + (1 : Int))) - (σ 45 i)) ∧ (σ = σ ∧ (σ 45 (i + 1) - σ 45 i) = ((σ 45 (i + (1 : Int))) - (σ 45 i)))))))
  refine ⟨by (exact ⟨by omega, by omega⟩), ?_⟩
  refine ⟨by (first | omega | exact ⟨by omega, by omega⟩ | exact ⟨by omega, by omega, by omega⟩ | exact ⟨by omega, by omega, by omega, by omega, by omega⟩), ?_⟩
  refine ⟨by (first | omega | exact ⟨by omega, by omega⟩ | exact ⟨by omega, by omega, by omega⟩ | exact ⟨by omega, by omega, by omega, by omega, by omega⟩), ?_⟩
  refine ⟨by (exact ⟨by omega, by omega⟩), ?_⟩
  exact ⟨rfl, rfl⟩
set_option maxRecDepth 100000 in
set_option maxHeartbeats 4000000 in
theorem am_X9_isLetter {σ : zS} {k : Int} : zAM 121 [.inl k] σ (fun (v : Int) (u : zS) => σ = u ∧ (v = 1 ∧ (0 ≤ k ∧ k < 26) ∨ v = 0 ∧ ¬ (0 ≤ k ∧ k < 26))) := by
  refine zam (by decide) (Nat.le_of_ble_eq_true rfl) ?_
  refine zwalk zmk_121 [] 2 ?_
  show (∃ Rc : Int → zS → Prop, zAM 103 [.inr (.inl k), .inr (.inl (0 : Int)), .inr (.inl (25 : Int))] σ Rc ∧ ∀ (v1 : Int) (u1 : zS), zI v1 → Rc v1 u1 → ((v1 = 0 ∨ v1 = 1) ∧ (σ = u1 ∧ (v1 = 1 ∧ (0 ≤ k ∧ k < 26) ∨ v1 = 0 ∧ ¬ (0 ≤ k ∧ k < 26)))))
  refine ⟨_, am_X9_in, ?_⟩
  intro v1 u1 hv1
  rintro ⟨rfl, (⟨rfl, cv1⟩ | ⟨rfl, cv1⟩)⟩
  · refine ⟨by (omega), ?_⟩
    exact ⟨rfl, by omega⟩
  · refine ⟨by (omega), ?_⟩
    exact ⟨rfl, by omega⟩
def zsh (n a b c : Int) : Int := if n = 1 then a else if n = 2 then 12 + 12 * a + b else 156 + 144 * a + 12 * b + c
set_option maxRecDepth 100000 in
set_option maxHeartbeats 4000000 in
theorem am_X9_shapes {σ : zS} {n : Int} {a : Int} {b : Int} {c : Int} (h : 1 ≤ n ∧ n ≤ 3 ∧ 0 ≤ a ∧ a < 12 ∧ (n < 2 ∨ 0 ≤ b ∧ b < 12) ∧ (n < 3 ∨ 0 ≤ c ∧ c < 12)) : zAM 122 [.inl n, .inl a, .inl b, .inl c] σ (fun (v : Int) (u : zS) => σ = u ∧ zsh n a b c = v) := by
  refine zam (by decide) (Nat.le_of_ble_eq_true rfl) ?_
  refine zwalk zmk_122 [] 4 ?_
  show ((¬ n = (1 : Int) → ((¬ n = (2 : Int) → (zI ((144 : Int) * a) ∧ (zI ((156 : Int) + ((144 : Int) * a)) ∧ (zI ((12 : Int) * b) ∧ (zI (((156 : Int) + ((144 : Int) * a)) + ((12 : Int) * b)) ∧ (zI ((((156 : Int) + ((144 : Int) * a)) + ((12 : Int) * b)) + c) ∧ (σ = σ ∧ zsh n a b c = ((((156 : Int) + ((144 : Int) * a)) + ((12 : Int) * b)) + c)))))))) ∧ (n = (2 : Int) → (zI ((12 : Int) * a) ∧ (zI ((12 : Int) + ((12 : Int) * a)) ∧ (zI (((12 : Int) + ((12 : Int) * a)) + b) ∧ (σ = σ ∧ zsh n a b c = (((12 : Int) + ((12 : Int) * a)) + b)))))))) ∧ (n = (1 : Int) → (σ = σ ∧ zsh n a b c = a)))
  refine ⟨?_, ?_⟩
  · intro h1
    refine ⟨?_, ?_⟩
    · intro h2
      refine ⟨by (exact ⟨by omega, by omega⟩), ?_⟩
      refine ⟨by (exact ⟨by omega, by omega⟩), ?_⟩
      refine ⟨by (exact ⟨by omega, by omega⟩), ?_⟩
      refine ⟨by (exact ⟨by omega, by omega⟩), ?_⟩
      refine ⟨by (exact ⟨by omega, by omega⟩), ?_⟩
      exact ⟨rfl, by unfold zsh; repeat' split <;> omega⟩
    · intro h3
      refine ⟨by (exact ⟨by omega, by omega⟩), ?_⟩
      refine ⟨by (exact ⟨by omega, by omega⟩), ?_⟩
      refine ⟨by (exact ⟨by omega, by omega⟩), ?_⟩
      exact ⟨rfl, by unfold zsh; repeat' split <;> omega⟩
  · intro h4
    exact ⟨rfl, by unfold zsh; repeat' split <;> omega⟩
set_option maxRecDepth 100000 in
set_option maxHeartbeats 4000000 in
theorem am_X9_isForm {σ : zS} {l : Int} {n : Int} {a : Int} {b : Int} {c : Int} : zAM 123 [.inl l, .inl n, .inl a, .inl b, .inl c] σ (fun (v : Int) (u : zS) => σ = u ∧ (v = 1 ∧ ((0 ≤ l ∧ l < 26) ∧ 1 ≤ n ∧ n ≤ 3 ∧ 0 ≤ a ∧ a < 12 ∧ (n < 2 ∨ 0 ≤ b ∧ b < 12) ∧ (n < 3 ∨ 0 ≤ c ∧ c < 12)) ∨ v = 0 ∧ ¬ ((0 ≤ l ∧ l < 26) ∧ 1 ≤ n ∧ n ≤ 3 ∧ 0 ≤ a ∧ a < 12 ∧ (n < 2 ∨ 0 ≤ b ∧ b < 12) ∧ (n < 3 ∨ 0 ≤ c ∧ c < 12)))) := by
  refine zam (by decide) (Nat.le_of_ble_eq_true rfl) ?_
  refine zwalk zmk_123 [] 5 ?_
  show (∃ Rc : Int → zS → Prop, zAM 121 [.inl l] σ Rc ∧ ∀ (v1 : Int) (u1 : zS), zI v1 → Rc v1 u1 → ((v1 = 0 → (((0 : Int) = 0 ∨ (0 : Int) = 1) ∧ (σ = u1 ∧ ((0 : Int) = 1 ∧ ((0 ≤ l ∧ l < 26) ∧ 1 ≤ n ∧ n ≤ 3 ∧ 0 ≤ a ∧ a < 12 ∧ (n < 2 ∨ 0 ≤ b ∧ b < 12) ∧ (n < 3 ∨ 0 ≤ c ∧ c < 12)) ∨ (0 : Int) = 0 ∧ ¬ ((0 ≤ l ∧ l < 26) ∧ 1 ≤ n ∧ n ≤ 3 ∧ 0 ≤ a ∧ a < 12 ∧ (n < 2 ∨ 0 ≤ b ∧ b < 12) ∧ (n < 3 ∨ 0 ≤ c ∧ c < 12)))))) ∧ (¬ v1 = 0 → (∃ Rc : Int → zS → Prop, zAM 103 [.inr (.inl n), .inr (.inl (1 : Int)), .inr (.inl (3 : Int))] u1 Rc ∧ ∀ (v2 : Int) (u2 : zS), zI v2 → Rc v2 u2 → ((v2 = 0 → (((0 : Int) = 0 ∨ (0 : Int) = 1) ∧ (σ = u2 ∧ ((0 : Int) = 1 ∧ ((0 ≤ l ∧ l < 26) ∧ 1 ≤ n ∧ n ≤ 3 ∧ 0 ≤ a ∧ a < 12 ∧ (n < 2 ∨ 0 ≤ b ∧ b < 12) ∧ (n < 3 ∨ 0 ≤ c ∧ c < 12)) ∨ (0 : Int) = 0 ∧ ¬ ((0 ≤ l ∧ l < 26) ∧ 1 ≤ n ∧ n ≤ 3 ∧ 0 ≤ a ∧ a < 12 ∧ (n < 2 ∨ 0 ≤ b ∧ b < 12) ∧ (n < 3 ∨ 0 ≤ c ∧ c < 12)))))) ∧ (¬ v2 = 0 → (∃ Rc : Int → zS → Prop, zAM 103 [.inr (.inl a), .inr (.inl (0 : Int)), .inr (.inl (11 : Int))] u2 Rc ∧ ∀ (v3 : Int) (u3 : zS), zI v3 → Rc v3 u3 → ((v3 = 0 → (((0 : Int) = 0 ∨ (0 : Int) = 1) ∧ (σ = u3 ∧ ((0 : Int) = 1 ∧ ((0 ≤ l ∧ l < 26) ∧ 1 ≤ n ∧ n ≤ 3 ∧ 0 ≤ a ∧ a < 12 ∧ (n < 2 ∨ 0 ≤ b ∧ b < 12) ∧ (n < 3 ∨ 0 ≤ c ∧ c < 12)) ∨ (0 : Int) = 0 ∧ ¬ ((0 ≤ l ∧ l < 26) ∧ 1 ≤ n ∧ n ≤ 3 ∧ 0 ≤ a ∧ a < 12 ∧ (n < 2 ∨ 0 ≤ b ∧ b < 12) ∧ (n < 3 ∨ 0 ≤ c ∧ c < 12)))))) ∧ (¬ v3 = 0 → ((n < (2 : Int) → ((n < (3 : Int) → (((1 : Int) = 0 ∨ (1 : Int) = 1) ∧ (σ = u3 ∧ ((1 : Int) = 1 ∧ ((0 ≤ l ∧ l < 26) ∧ 1 ≤ n ∧ n ≤ 3 ∧ 0 ≤ a ∧ a < 12 ∧ (n < 2 ∨ 0 ≤ b ∧ b < 12) ∧ (n < 3 ∨ 0 ≤ c ∧ c < 12)) ∨ (1 : Int) = 0 ∧ ¬ ((0 ≤ l ∧ l < 26) ∧ 1 ≤ n ∧ n ≤ 3 ∧ 0 ≤ a ∧ a < 12 ∧ (n < 2 ∨ 0 ≤ b ∧ b < 12) ∧ (n < 3 ∨ 0 ≤ c ∧ c < 12)))))) ∧ ((3 : Int) ≤ n → (∃ Rc : Int → zS → Prop, zAM 103 [.inr (.inl c), .inr (.inl (0 : Int)), .inr (.inl (11 : Int))] u3 Rc ∧ ∀ (v4 : Int) (u4 : zS), zI v4 → Rc v4 u4 → ((v4 = 0 → (((0 : Int) = 0 ∨ (0 : Int) = 1) ∧ (σ = u4 ∧ ((0 : Int) = 1 ∧ ((0 ≤ l ∧ l < 26) ∧ 1 ≤ n ∧ n ≤ 3 ∧ 0 ≤ a ∧ a < 12 ∧ (n < 2 ∨ 0 ≤ b ∧ b < 12) ∧ (n < 3 ∨ 0 ≤ c ∧ c < 12)) ∨ (0 : Int) = 0 ∧ ¬ ((0 ≤ l ∧ l < 26) ∧ 1 ≤ n ∧ n ≤ 3 ∧ 0 ≤ a ∧ a < 12 ∧ (n < 2 ∨ 0 ≤ b ∧ b < 12) ∧ (n < 3 ∨ 0 ≤ c ∧ c < 12)))))) ∧ (¬ v4 = 0 → (((1 : Int) = 0 ∨ (1 : Int) = 1) ∧ (σ = u4 ∧ ((1 : Int) = 1 ∧ ((0 ≤ l ∧ l < 26) ∧ 1 ≤ n ∧ n ≤ 3 ∧ 0 ≤ a ∧ a < 12 ∧ (n < 2 ∨ 0 ≤ b ∧ b < 12) ∧ (n < 3 ∨ 0 ≤ c ∧ c < 12)) ∨ (1 : Int) = 0 ∧ ¬ ((0 ≤ l ∧ l < 26) ∧ 1 ≤ n ∧ n ≤ 3 ∧ 0 ≤ a ∧ a < 12 ∧ (n < 2 ∨ 0 ≤ b ∧ b < 12) ∧ (n < 3 ∨ 0 ≤ c ∧ c < 12))))))))))) ∧ ((2 : Int) ≤ n → (∃ Rc : Int → zS → Prop, zAM 103 [.inr (.inl b), .inr (.inl (0 : Int)), .inr (.inl (11 : Int))] u3 Rc ∧ ∀ (v5 : Int) (u5 : zS), zI v5 → Rc v5 u5 → ((v5 = 0 → (((0 : Int) = 0 ∨ (0 : Int) = 1) ∧ (σ = u5 ∧ ((0 : Int) = 1 ∧ ((0 ≤ l ∧ l < 26) ∧ 1 ≤ n ∧ n ≤ 3 ∧ 0 ≤ a ∧ a < 12 ∧ (n < 2 ∨ 0 ≤ b ∧ b < 12) ∧ (n < 3 ∨ 0 ≤ c ∧ c < 12)) ∨ (0 : Int) = 0 ∧ ¬ ((0 ≤ l ∧ l < 26) ∧ 1 ≤ n ∧ n ≤ 3 ∧ 0 ≤ a ∧ a < 12 ∧ (n < 2 ∨ 0 ≤ b ∧ b < 12) ∧ (n < 3 ∨ 0 ≤ c ∧ c < 12)))))) ∧ (¬ v5 = 0 → ((n < (3 : Int) → (((1 : Int) = 0 ∨ (1 : Int) = 1) ∧ (σ = u5 ∧ ((1 : Int) = 1 ∧ ((0 ≤ l ∧ l < 26) ∧ 1 ≤ n ∧ n ≤ 3 ∧ 0 ≤ a ∧ a < 12 ∧ (n < 2 ∨ 0 ≤ b ∧ b < 12) ∧ (n < 3 ∨ 0 ≤ c ∧ c < 12)) ∨ (1 : Int) = 0 ∧ ¬ ((0 ≤ l ∧ l < 26) ∧ 1 ≤ n ∧ n ≤ 3 ∧ 0 ≤ a ∧ a < 12 ∧ (n < 2 ∨ 0 ≤ b ∧ b < 12) ∧ (n < 3 ∨ 0 ≤ c ∧ c < 12)))))) ∧ ((3 : Int) ≤ n → (∃ Rc : Int → zS → Prop, zAM 103 [.inr (.inl c), .inr (.inl (0 : Int)), .inr (.inl (11 : Int))] u5 Rc ∧ ∀ (v6 : Int) (u6 : zS), zI v6 → Rc v6 u6 → ((v6 = 0 → (((0 : Int) = 0 ∨ (0 : Int) = 1) ∧ (σ = u6 ∧ ((0 : Int) = 1 ∧ ((0 ≤ l ∧ l < 26) ∧ 1 ≤ n ∧ n ≤ 3 ∧ 0 ≤ a ∧ a < 12 ∧ (n < 2 ∨ 0 ≤ b ∧ b < 12) ∧ (n < 3 ∨ 0 ≤ c ∧ c < 12)) ∨ (0 : Int) = 0 ∧ ¬ ((0 ≤ l ∧ l < 26) ∧ 1 ≤ n ∧ n ≤ 3 ∧ 0 ≤ a ∧ a < 12 ∧ (n < 2 ∨ 0 ≤ b ∧ b < 12) ∧ (n < 3 ∨ 0 ≤ c ∧ c < 12)))))) ∧ (¬ v6 = 0 → (((1 : Int) = 0 ∨ (1 : Int) = 1) ∧ (σ = u6 ∧ ((1 : Int) = 1 ∧ ((0 ≤ l ∧ l < 26) ∧ 1 ≤ n ∧ n ≤ 3 ∧ 0 ≤ a ∧ a < 12 ∧ (n < 2 ∨ 0 ≤ b ∧ b < 12) ∧ (n < 3 ∨ 0 ≤ c ∧ c < 12)) ∨ (1 : Int) = 0 ∧ ¬ ((0 ≤ l ∧ l < 26) ∧ 1 ≤ n ∧ n ≤ 3 ∧ 0 ≤ a ∧ a < 12 ∧ (n < 2 ∨ 0 ≤ b ∧ b < 12) ∧ (n < 3 ∨ 0 ≤ c ∧ c < 12))))))))))))))))))))))))
  refine ⟨_, am_X9_isLetter, ?_⟩
  intro v1 u1 hv1
  rintro ⟨rfl, (⟨rfl, cv1⟩ | ⟨rfl, cv1⟩)⟩
  · refine ⟨?_, ?_⟩
    · exact fun h => absurd h (by decide)
    · intro _
      refine ⟨_, am_X9_in, ?_⟩
      intro v2 u2 hv2
      rintro ⟨rfl, (⟨rfl, cv2⟩ | ⟨rfl, cv2⟩)⟩
      · refine ⟨?_, ?_⟩
        · exact fun h => absurd h (by decide)
        · intro _
          refine ⟨_, am_X9_in, ?_⟩
          intro v3 u3 hv3
          rintro ⟨rfl, (⟨rfl, cv3⟩ | ⟨rfl, cv3⟩)⟩
          · refine ⟨?_, ?_⟩
            · exact fun h => absurd h (by decide)
            · intro _
              refine ⟨?_, ?_⟩
              · intro h4
                refine ⟨?_, ?_⟩
                · intro h5
                  refine ⟨by (omega), ?_⟩
                  exact ⟨rfl, by omega⟩
                · intro h6
                  refine ⟨_, am_X9_in, ?_⟩
                  intro v4 u4 hv4
                  rintro ⟨rfl, (⟨rfl, cv4⟩ | ⟨rfl, cv4⟩)⟩
                  · refine ⟨?_, ?_⟩
                    · exact fun h => absurd h (by decide)
                    · intro _
                      refine ⟨by (omega), ?_⟩
                      exact ⟨rfl, by omega⟩
                  · refine ⟨?_, ?_⟩
                    · intro _
                      refine ⟨by (omega), ?_⟩
                      exact ⟨rfl, by omega⟩
                    · exact fun h => absurd h (by decide)
              · intro h9
                refine ⟨_, am_X9_in, ?_⟩
                intro v5 u5 hv5
                rintro ⟨rfl, (⟨rfl, cv5⟩ | ⟨rfl, cv5⟩)⟩
                · refine ⟨?_, ?_⟩
                  · exact fun h => absurd h (by decide)
                  · intro _
                    refine ⟨?_, ?_⟩
                    · intro h11
                      refine ⟨by (omega), ?_⟩
                      exact ⟨rfl, by omega⟩
                    · intro h12
                      refine ⟨_, am_X9_in, ?_⟩
                      intro v6 u6 hv6
                      rintro ⟨rfl, (⟨rfl, cv6⟩ | ⟨rfl, cv6⟩)⟩
                      · refine ⟨?_, ?_⟩
                        · exact fun h => absurd h (by decide)
                        · intro _
                          refine ⟨by (omega), ?_⟩
                          exact ⟨rfl, by omega⟩
                      · refine ⟨?_, ?_⟩
                        · intro _
                          refine ⟨by (omega), ?_⟩
                          exact ⟨rfl, by omega⟩
                        · exact fun h => absurd h (by decide)
                · refine ⟨?_, ?_⟩
                  · intro _
                    refine ⟨by (omega), ?_⟩
                    exact ⟨rfl, by omega⟩
                  · exact fun h => absurd h (by decide)
          · refine ⟨?_, ?_⟩
            · intro _
              refine ⟨by (omega), ?_⟩
              exact ⟨rfl, by omega⟩
            · exact fun h => absurd h (by decide)
      · refine ⟨?_, ?_⟩
        · intro _
          refine ⟨by (omega), ?_⟩
          exact ⟨rfl, by omega⟩
        · exact fun h => absurd h (by decide)
  · refine ⟨?_, ?_⟩
    · intro _
      refine ⟨by (omega), ?_⟩
      exact ⟨rfl, by omega⟩
    · exact fun h => absurd h (by decide)
set_option maxRecDepth 100000 in
set_option maxHeartbeats 4000000 in
theorem am_X9_raise {σ : zS} {s : Int} {n : Int} (hs : 0 ≤ s ∧ s < 49660) (hn : 0 ≤ n ∧ n ≤ 99) (hc : 0 ≤ σ 47 s ∧ σ 47 s ≤ 999) (hu : 0 ≤ σ 9 17 ∧ σ 9 17 < 12000) : zAM 124 [.inr (.inr (9, 0)), .inl s, .inl n] σ (fun (v : Int) (u : zS) => zup (if 0 < σ 9 20 then zup (zup (zup σ 48 (σ 9 17) s) 49 (σ 9 17) (σ 47 s)) 9 17 (σ 9 17 + 1) else σ) 47 s (min 999 (σ 47 s + n)) = u ∧ min 999 (σ 47 s + n) = v) := by
  refine zam (by decide) (Nat.le_of_ble_eq_true rfl) ?_
  refine zwalk zmk_124 [] 4 ?_
  show (((σ 9 (20 : Int)) ≤ 0 → ((0 ≤ s ∧ s < (49660 : Int)) ∧ (zI ((σ 47 s) + n) ∧ ((((σ 47 s) + n) ≤ (999 : Int) → ((0 ≤ s ∧ s < (49660 : Int)) ∧ (zI ((σ 47 s) + n) ∧ ((0 ≤ s ∧ s < (49660 : Int)) ∧ ((0 ≤ s ∧ s < (49660 : Int)) ∧ (zup (if 0 < σ 9 20 then zup (zup (zup σ 48 (σ 9 17) s) 49 (σ 9 17) (σ 47 s)) 9 17 (σ 9 17 + 1) else σ) 47 s (min 999 (σ 47 s + n)) = (zup σ 47 s ((σ 47 s) + n)) ∧ min 999 (σ 47 s + n) = (if s = s then ((σ 47 s) + n) else (σ 47 s)))))))) ∧ ((999 : Int) < ((σ 47 s) + n) → ((0 ≤ s ∧ s < (49660 : Int)) ∧ ((0 ≤ s ∧ s < (49660 : Int)) ∧ (zup (if 0 < σ 9 20 then zup (zup (zup σ 48 (σ 9 17) s) 49 (σ 9 17) (σ 47 s)) 9 17 (σ 9 17 + 1) else σ) 47 s (min 999 (σ 47 s + n)) = (zup σ 47 s (999 : Int)) ∧ min 999 (σ 47 s + n) = (if s = s then (999 : Int) else (σ 47 s)))))))))) ∧ (0 < (σ 9 (20 : Int)) → ((0 ≤ (σ 9 (17 : Int)) ∧ (σ 9 (17 : Int)) < (12000 : Int)) ∧ ((0 ≤ s ∧ s < (49660 : Int)) ∧ ((0 ≤ (σ 9 (17 : Int)) ∧ (σ 9 (17 : Int)) < (12000 : Int)) ∧ (zI ((σ 9 (17 : Int)) + (1 : Int)) ∧ ((0 ≤ s ∧ s < (49660 : Int)) ∧ (zI ((σ 47 s) + n) ∧ ((((σ 47 s) + n) ≤ (999 : Int) → ((0 ≤ s ∧ s < (49660 : Int)) ∧ (zI ((σ 47 s) + n) ∧ ((0 ≤ s ∧ s < (49660 : Int)) ∧ ((0 ≤ s ∧ s < (49660 : Int)) ∧ (zup (if 0 < σ 9 20 then zup (zup (zup σ 48 (σ 9 17) s) 49 (σ 9 17) (σ 47 s)) 9 17 (σ 9 17 + 1) else σ) 47 s (min 999 (σ 47 s + n)) = (zup (zup (zup (zup σ 48 (σ 9 (17 : Int)) s) 49 (σ 9 (17 : Int)) (σ 47 s)) 9 (17 : Int) ((σ 9 (17 : Int)) + (1 : Int))) 47 s ((σ 47 s) + n)) ∧ min 999 (σ 47 s + n) = (if s = s then ((σ 47 s) + n) else (σ 47 s)))))))) ∧ ((999 : Int) < ((σ 47 s) + n) → ((0 ≤ s ∧ s < (49660 : Int)) ∧ ((0 ≤ s ∧ s < (49660 : Int)) ∧ (zup (if 0 < σ 9 20 then zup (zup (zup σ 48 (σ 9 17) s) 49 (σ 9 17) (σ 47 s)) 9 17 (σ 9 17 + 1) else σ) 47 s (min 999 (σ 47 s + n)) = (zup (zup (zup (zup σ 48 (σ 9 (17 : Int)) s) 49 (σ 9 (17 : Int)) (σ 47 s)) 9 (17 : Int) ((σ 9 (17 : Int)) + (1 : Int))) 47 s (999 : Int)) ∧ min 999 (σ 47 s + n) = (if s = s then (999 : Int) else (σ 47 s)))))))))))))))
  refine ⟨?_, ?_⟩
  · intro h1
    refine ⟨by (first | omega | exact ⟨by omega, by omega⟩ | exact ⟨by omega, by omega, by omega⟩ | exact ⟨by omega, by omega, by omega, by omega, by omega⟩), ?_⟩
    refine ⟨by (exact ⟨by omega, by omega⟩), ?_⟩
    refine ⟨?_, ?_⟩
    · intro h2
      refine ⟨by (first | omega | exact ⟨by omega, by omega⟩ | exact ⟨by omega, by omega, by omega⟩ | exact ⟨by omega, by omega, by omega, by omega, by omega⟩), ?_⟩
      refine ⟨by (exact ⟨by omega, by omega⟩), ?_⟩
      refine ⟨by (first | omega | exact ⟨by omega, by omega⟩ | exact ⟨by omega, by omega, by omega⟩ | exact ⟨by omega, by omega, by omega, by omega, by omega⟩), ?_⟩
      refine ⟨by (first | omega | exact ⟨by omega, by omega⟩ | exact ⟨by omega, by omega, by omega⟩ | exact ⟨by omega, by omega, by omega, by omega, by omega⟩), ?_⟩
      have e : σ 47 s + n = min 999 (σ 47 s + n) := by omega
      rw [← e]
      rw [if_neg (show ¬ 0 < σ 9 20 by omega)]; exact ⟨rfl, (if_pos rfl).symm⟩
    · intro h3
      refine ⟨by (first | omega | exact ⟨by omega, by omega⟩ | exact ⟨by omega, by omega, by omega⟩ | exact ⟨by omega, by omega, by omega, by omega, by omega⟩), ?_⟩
      refine ⟨by (first | omega | exact ⟨by omega, by omega⟩ | exact ⟨by omega, by omega, by omega⟩ | exact ⟨by omega, by omega, by omega, by omega, by omega⟩), ?_⟩
      have e : (999 : Int) = min 999 (σ 47 s + n) := by omega
      rw [← e]
      rw [if_neg (show ¬ 0 < σ 9 20 by omega)]; exact ⟨rfl, (if_pos rfl).symm⟩
  · intro h4
    refine ⟨by (first | omega | exact ⟨by omega, by omega⟩ | exact ⟨by omega, by omega, by omega⟩ | exact ⟨by omega, by omega, by omega, by omega, by omega⟩), ?_⟩
    refine ⟨by (first | omega | exact ⟨by omega, by omega⟩ | exact ⟨by omega, by omega, by omega⟩ | exact ⟨by omega, by omega, by omega, by omega, by omega⟩), ?_⟩
    refine ⟨by (first | omega | exact ⟨by omega, by omega⟩ | exact ⟨by omega, by omega, by omega⟩ | exact ⟨by omega, by omega, by omega, by omega, by omega⟩), ?_⟩
    refine ⟨by (exact ⟨by omega, by omega⟩), ?_⟩
    refine ⟨by (first | omega | exact ⟨by omega, by omega⟩ | exact ⟨by omega, by omega, by omega⟩ | exact ⟨by omega, by omega, by omega, by omega, by omega⟩), ?_⟩
    refine ⟨by (exact ⟨by omega, by omega⟩), ?_⟩
    refine ⟨?_, ?_⟩
    · intro h5
      refine ⟨by (first | omega | exact ⟨by omega, by omega⟩ | exact ⟨by omega, by omega, by omega⟩ | exact ⟨by omega, by omega, by omega, by omega, by omega⟩), ?_⟩
      refine ⟨by (exact ⟨by omega, by omega⟩), ?_⟩
      refine ⟨by (first | omega | exact ⟨by omega, by omega⟩ | exact ⟨by omega, by omega, by omega⟩ | exact ⟨by omega, by omega, by omega, by omega, by omega⟩), ?_⟩
      refine ⟨by (first | omega | exact ⟨by omega, by omega⟩ | exact ⟨by omega, by omega, by omega⟩ | exact ⟨by omega, by omega, by omega, by omega, by omega⟩), ?_⟩
      have e : σ 47 s + n = min 999 (σ 47 s + n) := by omega
      rw [← e]
      rw [if_pos (show 0 < σ 9 20 by omega)]; exact ⟨rfl, (if_pos rfl).symm⟩
    · intro h6
      refine ⟨by (first | omega | exact ⟨by omega, by omega⟩ | exact ⟨by omega, by omega, by omega⟩ | exact ⟨by omega, by omega, by omega, by omega, by omega⟩), ?_⟩
      refine ⟨by (first | omega | exact ⟨by omega, by omega⟩ | exact ⟨by omega, by omega, by omega⟩ | exact ⟨by omega, by omega, by omega, by omega, by omega⟩), ?_⟩
      have e : (999 : Int) = min 999 (σ 47 s + n) := by omega
      rw [← e]
      rw [if_pos (show 0 < σ 9 20 by omega)]; exact ⟨rfl, (if_pos rfl).symm⟩
set_option maxRecDepth 100000 in
set_option maxHeartbeats 4000000 in
theorem am_X9_state {σ : zS} {a : Int} {b : Int} {c : Int} (h : 0 ≤ a ∧ a ≤ 14 ∧ 0 ≤ b ∧ b < 26 ∧ 0 ≤ c ∧ c ≤ 13) : zAM 136 [.inl a, .inl b, .inl c] σ (fun (v : Int) (u : zS) => σ = u ∧ (338 * a + 13 * b + c) = v) := by
  refine zam (by decide) (Nat.le_of_ble_eq_true rfl) ?_
  refine zwalk zmk_136 [] 2 ?_
  show (zI ((338 : Int) * a) ∧ (zI ((13 : Int) * b) ∧ (zI (((338 : Int) * a) + ((13 : Int) * b)) ∧ (zI ((((338 : Int) * a) + ((13 : Int) * b)) + c) ∧ (σ = σ ∧ (338 * a + 13 * b + c) = ((((338 : Int) * a) + ((13 : Int) * b)) + c))))))
  refine ⟨by (exact ⟨by omega, by omega⟩), ?_⟩
  refine ⟨by (exact ⟨by omega, by omega⟩), ?_⟩
  refine ⟨by (exact ⟨by omega, by omega⟩), ?_⟩
  refine ⟨by (exact ⟨by omega, by omega⟩), ?_⟩
  exact ⟨rfl, rfl⟩
def zaw (a b : Int) : Int := if b < a then a - b else b - a
set_option maxRecDepth 100000 in
set_option maxHeartbeats 4000000 in
theorem am_X9_away {σ : zS} {k : Int} {d : Int} (h : 0 ≤ k ∧ k < 40 ∧ 0 ≤ d ∧ d < 40) (h1 : 0 ≤ σ 41 k ∧ σ 41 k ≤ 2000) (h2 : 0 ≤ σ 44 d ∧ σ 44 d ≤ 2000) : zAM 113 [.inr (.inr (9, 0)), .inl k, .inl d] σ (fun (v : Int) (u : zS) => σ = u ∧ zaw (σ 41 k) (σ 44 d) = v) := by
  refine zam (by decide) (Nat.le_of_ble_eq_true rfl) ?_
  refine zwalk zmk_113 [] 3 ?_
  show ((0 ≤ k ∧ k < (40 : Int)) ∧ ((0 ≤ d ∧ d < (40 : Int)) ∧ (((σ 41 k) ≤ (σ 44 d) → ((0 ≤ d ∧ d < (40 : Int)) ∧ ((0 ≤ k ∧ k < (40 : Int)) ∧ (zI ((σ 44 d) - (σ 41 k)) ∧ (σ = σ ∧ zaw (σ 41 k) (σ 44 d) = ((σ 44 d) - (σ 41 k))))))) ∧ ((σ 44 d) < (σ 41 k) → ((0 ≤ k ∧ k < (40 : Int)) ∧ ((0 ≤ d ∧ d < (40 : Int)) ∧ (zI ((σ 41 k) - (σ 44 d)) ∧ (σ = σ ∧ zaw (σ 41 k) (σ 44 d) = ((σ 41 k) - (σ 44 d))))))))))
  refine ⟨by (first | omega | exact ⟨by omega, by omega⟩ | exact ⟨by omega, by omega, by omega⟩ | exact ⟨by omega, by omega, by omega, by omega, by omega⟩), ?_⟩
  refine ⟨by (first | omega | exact ⟨by omega, by omega⟩ | exact ⟨by omega, by omega, by omega⟩ | exact ⟨by omega, by omega, by omega, by omega, by omega⟩), ?_⟩
  refine ⟨?_, ?_⟩
  · intro h1
    refine ⟨by (first | omega | exact ⟨by omega, by omega⟩ | exact ⟨by omega, by omega, by omega⟩ | exact ⟨by omega, by omega, by omega, by omega, by omega⟩), ?_⟩
    refine ⟨by (first | omega | exact ⟨by omega, by omega⟩ | exact ⟨by omega, by omega, by omega⟩ | exact ⟨by omega, by omega, by omega, by omega, by omega⟩), ?_⟩
    refine ⟨by (exact ⟨by omega, by omega⟩), ?_⟩
    exact ⟨rfl, by unfold zaw; split <;> omega⟩
  · intro h2
    refine ⟨by (first | omega | exact ⟨by omega, by omega⟩ | exact ⟨by omega, by omega, by omega⟩ | exact ⟨by omega, by omega, by omega, by omega, by omega⟩), ?_⟩
    refine ⟨by (first | omega | exact ⟨by omega, by omega⟩ | exact ⟨by omega, by omega, by omega⟩ | exact ⟨by omega, by omega, by omega, by omega, by omega⟩), ?_⟩
    refine ⟨by (exact ⟨by omega, by omega⟩), ?_⟩
    exact ⟨rfl, by unfold zaw; split <;> omega⟩
set_option maxRecDepth 100000 in
set_option maxHeartbeats 4000000 in
theorem am_X9_loose {σ : zS} : zAM 120 [.inr (.inr (9, 0))] σ (fun (v : Int) (u : zS) => σ = u ∧ (σ 9 11) = v) := by
  refine zam (by decide) (Nat.le_of_ble_eq_true rfl) ?_
  refine zwalk zmk_120 [] 2 ?_
  show (σ = σ ∧ (σ 9 11) = (σ 9 (11 : Int)))
  exact ⟨rfl, rfl⟩
set_option maxRecDepth 100000 in
set_option maxHeartbeats 4000000 in
theorem am_X9_status {σ : zS} : zAM 157 [.inr (.inr (9, 0))] σ (fun (v : Int) (u : zS) => σ = u ∧ (σ 9 4) = v) := by
  refine zam (by decide) (Nat.le_of_ble_eq_true rfl) ?_
  refine zwalk zmk_157 [] 2 ?_
  show (σ = σ ∧ (σ 9 4) = (σ 9 (4 : Int)))
  exact ⟨rfl, rfl⟩
set_option maxRecDepth 100000 in
set_option maxHeartbeats 4000000 in
theorem am_X9_wipe {σ : zS} : zAM 131 [.inr (.inr (9, 0))] σ (fun (v : Int) (u : zS) => zup σ 9 25 0 = u ∧ σ 9 25 = v) := by
  refine zam (by decide) (Nat.le_of_ble_eq_true rfl) ?_
  refine zwalk zmk_131 [] 2 ?_
  show (zup σ 9 25 0 = (zup σ 9 (25 : Int) (0 : Int)) ∧ σ 9 25 = (σ 9 (25 : Int)))
  exact ⟨rfl, rfl⟩
set_option maxRecDepth 100000 in
set_option maxHeartbeats 4000000 in
theorem am_X9_trace {σ : zS} {i : Int} (h : 0 ≤ σ 9 28 ∧ σ 9 28 ≤ 16) : zAM 155 [.inr (.inr (9, 0)), .inl i] σ (fun (v : Int) (u : zS) => σ = u ∧ (if 0 ≤ i ∧ i < σ 9 28 then σ 54 i else -1000000) = v) := by
  refine zam (by decide) (Nat.le_of_ble_eq_true rfl) ?_
  refine zwalk zmk_155 [] 3 ?_
  show (zI ((σ 9 (28 : Int)) - (1 : Int)) ∧ (∃ Rc : Int → zS → Prop, zAM 103 [.inr (.inl i), .inr (.inl (0 : Int)), .inr (.inl ((σ 9 (28 : Int)) - (1 : Int)))] σ Rc ∧ ∀ (v1 : Int) (u1 : zS), zI v1 → Rc v1 u1 → ((v1 = 0 → (σ = u1 ∧ (if 0 ≤ i ∧ i < σ 9 28 then σ 54 i else -1000000) = (-1000000 : Int))) ∧ (¬ v1 = 0 → ((0 ≤ i ∧ i < (16 : Int)) ∧ (σ = u1 ∧ (if 0 ≤ i ∧ i < σ 9 28 then σ 54 i else -1000000) = (u1 54 i)))))))
  refine ⟨by (exact ⟨by omega, by omega⟩), ?_⟩
  refine ⟨_, am_X9_in, ?_⟩
  intro v1 u1 hv1
  rintro ⟨rfl, (⟨rfl, cv1⟩ | ⟨rfl, cv1⟩)⟩
  · refine ⟨?_, ?_⟩
    · exact fun h => absurd h (by decide)
    · intro _
      refine ⟨by (first | omega | exact ⟨by omega, by omega⟩ | exact ⟨by omega, by omega, by omega⟩ | exact ⟨by omega, by omega, by omega, by omega, by omega⟩), ?_⟩
      exact ⟨rfl, if_pos (by omega)⟩
  · refine ⟨?_, ?_⟩
    · intro _
      exact ⟨rfl, if_neg (by omega)⟩
    · exact fun h => absurd h (by decide)
set_option maxRecDepth 100000 in
set_option maxHeartbeats 4000000 in
theorem am_X9_begins {σ : zS} {b : Int} (h : 0 ≤ σ 9 28) : zAM 151 [.inr (.inr (9, 0)), .inl b] σ (fun (v : Int) (u : zS) => (if σ 9 28 < 16 then zup (zup σ 54 (σ 9 28) b) 9 28 (σ 9 28 + 1) else σ) = u) := by
  refine zam (by decide) (Nat.le_of_ble_eq_true rfl) ?_
  refine zwalk zmk_151 [] 3 ?_
  show (((16 : Int) ≤ (σ 9 (28 : Int)) → ((if σ 9 28 < 16 then zup (zup σ 54 (σ 9 28) b) 9 28 (σ 9 28 + 1) else σ) = σ)) ∧ ((σ 9 (28 : Int)) < (16 : Int) → ((0 ≤ (σ 9 (28 : Int)) ∧ (σ 9 (28 : Int)) < (16 : Int)) ∧ (zI ((σ 9 (28 : Int)) + (1 : Int)) ∧ ((if σ 9 28 < 16 then zup (zup σ 54 (σ 9 28) b) 9 28 (σ 9 28 + 1) else σ) = (zup (zup σ 54 (σ 9 (28 : Int)) b) 9 (28 : Int) ((σ 9 (28 : Int)) + (1 : Int))))))))
  refine ⟨?_, ?_⟩
  · intro h1
    exact if_neg (by omega)
  · intro h2
    refine ⟨by (first | omega | exact ⟨by omega, by omega⟩ | exact ⟨by omega, by omega, by omega⟩ | exact ⟨by omega, by omega, by omega, by omega, by omega⟩), ?_⟩
    refine ⟨by (exact ⟨by omega, by omega⟩), ?_⟩
    exact if_pos (by omega)
set_option maxRecDepth 100000 in
set_option maxHeartbeats 4000000 in
theorem lp_forget {τ : zS} : ∀ (n : Nat) (i : Int) (σ : zS), 40 - i < (n : Int) → (0 ≤ i) → (i ≤ 40) → (σ = zfill τ 55 0 i 0) → zRuns 111 zX0 (fun (v : Int) (u : zS) => zfill τ 55 0 40 0 = u) 2 [some (.inr (.inr (9, 0))), some (.inl i)] [] σ := by
  intro n
  induction n with
  | zero =>
    intro i σ hn hi hi2 hσ
    exfalso
    omega
  | succ n ih =>
    intro i σ hn hi hi2 hσ
    refine zwalk zmk_111 [(2, [true, true])] 3 ?_
    show (((40 : Int) ≤ i → (zfill τ 55 0 40 0 = σ)) ∧ (i < (40 : Int) → ((((0 : Int) = 0 ∨ (0 : Int) = 1) ∧ 0 ≤ i ∧ i < (40 : Int)) ∧ (zI (i + (1 : Int)) ∧ zRuns 111 zX0 (fun (v : Int) (u : zS) => zfill τ 55 0 40 0 = u) 2 [some (.inr (.inr (9, 0))), some (.inl (i + (1 : Int)))] [] (zup σ 55 i (0 : Int))))))
    refine ⟨?_, ?_⟩
    · intro h1
      have : i = 40 := by omega
      rw [this] at hσ; exact hσ.symm
    · intro h2
      refine ⟨by (first | omega | exact ⟨by omega, by omega⟩ | exact ⟨by omega, by omega, by omega⟩ | exact ⟨by omega, by omega, by omega, by omega, by omega⟩), ?_⟩
      refine ⟨by (exact ⟨by omega, by omega⟩), ?_⟩
      exact ih _ _ (by omega) (by omega) (by omega) (by rw [hσ]; have h9 := zfill_s (σ := τ) (k := 55) (o := 0) (v := 0) hi; rwa [Int.zero_add] at h9)
set_option maxRecDepth 100000 in
set_option maxHeartbeats 4000000 in
theorem am_X9_forget {σ : zS} : zAM 111 [.inr (.inr (9, 0))] σ (fun (v : Int) (u : zS) => zfill σ 55 0 40 0 = u) := by
  refine zam (by decide) (Nat.le_of_ble_eq_true rfl) ?_
  refine zwalk zmk_111 [(2, [true, true])] 2 ?_
  show zRuns 111 zX0 (fun (v : Int) (u : zS) => zfill σ 55 0 40 0 = u) 2 [some (.inr (.inr (9, 0))), some (.inl (0 : Int))] [] σ
  exact lp_forget 41 0 _ (by omega) (by omega) (by omega) zfill_0.symm
