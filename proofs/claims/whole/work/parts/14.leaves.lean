set_option maxRecDepth 100000 in
set_option maxHeartbeats 4000000 in
theorem am_X2_piecesOf {σ : zS} {i : Int} (hi : 0 ≤ i ∧ i < 40) (hb : 0 ≤ σ 20 i ∧ σ 20 i ≤ 40) (hc : 0 ≤ σ 20 (i + 1) ∧ σ 20 (i + 1) ≤ 40) : zAM 21 [.inr (.inr (2, 0)), .inl i] σ (fun (v : Int) (u : zS) => σ = u ∧ σ 20 (i + 1) - σ 20 i = v) := by
  refine zam (by decide) (Nat.le_of_ble_eq_true rfl) ?_
  refine zwalk zmk_21 [] 2 ?_
  show (zI (i + (1 : Int)) ∧ ((0 ≤ (i + (1 : Int)) ∧ (i + (1 : Int)) < (41 : Int)) ∧ ((0 ≤ i ∧ i < (41 : Int)) ∧ (zI ((σ 20 (i + (1 : Int))) - (σ 20 i)) ∧ (σ = σ ∧ σ 20 (i + 1) - σ 20 i = ((σ 20 (i + (1 : Int))) - (σ 20 i)))))))
  refine ⟨by (exact ⟨by omega, by omega⟩), ?_⟩
  refine ⟨by (first | omega | exact ⟨by omega, by omega⟩ | exact ⟨by omega, by omega, by omega⟩ | exact ⟨by omega, by omega, by omega, by omega, by omega⟩), ?_⟩
  refine ⟨by (first | omega | exact ⟨by omega, by omega⟩ | exact ⟨by omega, by omega, by omega⟩ | exact ⟨by omega, by omega, by omega, by omega, by omega⟩), ?_⟩
  refine ⟨by (exact ⟨by omega, by omega⟩), ?_⟩
  exact ⟨rfl, rfl⟩
def zdot (l d : Int) : Int := if (l = 8 ∨ l = 9) ∧ d = 0 then 5 else if ¬ (l = 8 ∨ l = 9) ∧ d = 1 then 4 else 0
set_option maxRecDepth 100000 in
set_option maxHeartbeats 4000000 in
theorem am_X1_dotCost {σ : zS} {l : Int} {d : Int} (hd : d = 0 ∨ d = 1) : zAM 11 [.inl l, .inl d] σ (fun (v : Int) (u : zS) => σ = u ∧ zdot l d = v) := by
  refine zam (by decide) (Nat.le_of_ble_eq_true rfl) ?_
  refine zwalk zmk_11 [] 6 ?_
  show ((l = (8 : Int) → ((¬ (1 : Int) = d → (((1 : Int) = 0 → (σ = σ ∧ zdot l d = (4 : Int))) ∧ (¬ (1 : Int) = 0 → (σ = σ ∧ zdot l d = (5 : Int))))) ∧ ((1 : Int) = d → (σ = σ ∧ zdot l d = (0 : Int))))) ∧ (¬ l = (8 : Int) → ((¬ l = (9 : Int) → ((¬ (0 : Int) = d → (((0 : Int) = 0 → (σ = σ ∧ zdot l d = (4 : Int))) ∧ (¬ (0 : Int) = 0 → (σ = σ ∧ zdot l d = (5 : Int))))) ∧ ((0 : Int) = d → (σ = σ ∧ zdot l d = (0 : Int))))) ∧ (l = (9 : Int) → ((¬ (1 : Int) = d → (((1 : Int) = 0 → (σ = σ ∧ zdot l d = (4 : Int))) ∧ (¬ (1 : Int) = 0 → (σ = σ ∧ zdot l d = (5 : Int))))) ∧ ((1 : Int) = d → (σ = σ ∧ zdot l d = (0 : Int))))))))
  refine ⟨?_, ?_⟩
  · intro h1
    refine ⟨?_, ?_⟩
    · intro h2
      refine ⟨?_, ?_⟩
      · exact fun h => absurd h (by decide)
      · intro _
        exact ⟨rfl, by unfold zdot; repeat' split <;> omega⟩
    · intro h4
      exact ⟨rfl, by unfold zdot; repeat' split <;> omega⟩
  · intro h5
    refine ⟨?_, ?_⟩
    · intro h6
      refine ⟨?_, ?_⟩
      · intro h7
        refine ⟨?_, ?_⟩
        · intro _
          exact ⟨rfl, by unfold zdot; repeat' split <;> omega⟩
        · exact fun h => absurd h (by decide)
      · intro h9
        exact ⟨rfl, by unfold zdot; repeat' split <;> omega⟩
    · intro h10
      refine ⟨?_, ?_⟩
      · intro h11
        refine ⟨?_, ?_⟩
        · exact fun h => absurd h (by decide)
        · intro _
          exact ⟨rfl, by unfold zdot; repeat' split <;> omega⟩
      · intro h13
        exact ⟨rfl, by unfold zdot; repeat' split <;> omega⟩
set_option maxRecDepth 100000 in
set_option maxHeartbeats 4000000 in
theorem am_X1_place {σ : zS} {a : Int} {r : Int} {l : Int} (h : 0 ≤ a ∧ a ≤ 14 ∧ 0 ≤ r ∧ r ≤ 4 ∧ 0 ≤ l ∧ l ≤ 26) : zAM 12 [.inl a, .inl r, .inl l] σ (fun (v : Int) (u : zS) => σ = u ∧ ((a * 3 + r - 1) * 26 + l) = v) := by
  refine zam (by decide) (Nat.le_of_ble_eq_true rfl) ?_
  refine zwalk zmk_12 [] 2 ?_
  show (zI (a * (3 : Int)) ∧ (zI ((a * (3 : Int)) + r) ∧ (zI (((a * (3 : Int)) + r) - (1 : Int)) ∧ (zI ((((a * (3 : Int)) + r) - (1 : Int)) * (26 : Int)) ∧ (zI (((((a * (3 : Int)) + r) - (1 : Int)) * (26 : Int)) + l) ∧ (σ = σ ∧ ((a * 3 + r - 1) * 26 + l) = (((((a * (3 : Int)) + r) - (1 : Int)) * (26 : Int)) + l)))))))
  refine ⟨by (exact ⟨by omega, by omega⟩), ?_⟩
  refine ⟨by (exact ⟨by omega, by omega⟩), ?_⟩
  refine ⟨by (exact ⟨by omega, by omega⟩), ?_⟩
  refine ⟨by (exact ⟨by omega, by omega⟩), ?_⟩
  refine ⟨by (exact ⟨by omega, by omega⟩), ?_⟩
  exact ⟨rfl, rfl⟩
set_option maxRecDepth 100000 in
set_option maxHeartbeats 4000000 in
theorem am_X1_cost {σ : zS} {a : Int} {r : Int} {l : Int} (h : 0 ≤ a ∧ a < 14 ∧ 1 ≤ r ∧ r ≤ 3 ∧ 0 ≤ l ∧ l < 26) : zAM 13 [.inr (.inr (5, 0)), .inl a, .inl r, .inl l] σ (fun (v : Int) (u : zS) => σ = u ∧ (σ 29 ((a * 3 + r - 1) * 26 + l)) = v) := by
  refine zam (by decide) (Nat.le_of_ble_eq_true rfl) ?_
  refine zwalk zmk_13 [] 2 ?_
  show (∃ Rc : Int → zS → Prop, zAM 12 [.inl a, .inl r, .inl l] σ Rc ∧ ∀ (v1 : Int) (u1 : zS), zI v1 → Rc v1 u1 → ((0 ≤ v1 ∧ v1 < (1092 : Int)) ∧ (σ = u1 ∧ (σ 29 ((a * 3 + r - 1) * 26 + l)) = (u1 29 v1))))
  refine ⟨_, am_X1_place (by omega), ?_⟩
  intro v1 u1 hv1
  rintro ⟨rfl, rfl⟩
  obtain ⟨hv1a, hv1b⟩ := hv1
  refine ⟨by (first | omega | exact ⟨by omega, by omega⟩ | exact ⟨by omega, by omega, by omega⟩ | exact ⟨by omega, by omega, by omega, by omega, by omega⟩), ?_⟩
  exact ⟨rfl, rfl⟩
set_option maxRecDepth 100000 in
set_option maxHeartbeats 4000000 in
theorem am_X8_pairSlot {σ : zS} {a : Int} {b : Int} (h : 0 ≤ a ∧ a < 26 ∧ 0 ≤ b ∧ b < 26) : zAM 85 [.inl a, .inl b] σ (fun (v : Int) (u : zS) => σ = u ∧ (a * 26 + b) = v) := by
  refine zam (by decide) (Nat.le_of_ble_eq_true rfl) ?_
  refine zwalk zmk_85 [] 2 ?_
  show (zI (a * (26 : Int)) ∧ (zI ((a * (26 : Int)) + b) ∧ (σ = σ ∧ (a * 26 + b) = ((a * (26 : Int)) + b))))
  refine ⟨by (exact ⟨by omega, by omega⟩), ?_⟩
  refine ⟨by (exact ⟨by omega, by omega⟩), ?_⟩
  exact ⟨rfl, rfl⟩
set_option maxRecDepth 100000 in
set_option maxHeartbeats 4000000 in
theorem am_X0_pairCost {σ : zS} {a : Int} {b : Int} (h : 0 ≤ a ∧ a < 26 ∧ 0 ≤ b ∧ b < 26) (hc : 0 ≤ σ 22 (a * 26 + b) ∧ σ 22 (a * 26 + b) ≤ 999) : zAM 5 [.inr (.inr (3, 0)), .inl a, .inl b] σ (fun (v : Int) (u : zS) => σ = u ∧ 6 / (σ 22 (a * 26 + b) + 1) = v) := by
  refine zam (by decide) (Nat.le_of_ble_eq_true rfl) ?_
  refine zwalk zmk_5 [] 2 ?_
  show (∃ Rc : Int → zS → Prop, zAM 85 [.inl a, .inl b] σ Rc ∧ ∀ (v1 : Int) (u1 : zS), zI v1 → Rc v1 u1 → ((0 ≤ v1 ∧ v1 < (1188 : Int)) ∧ (zI ((u1 22 v1) + (1 : Int)) ∧ ((0 ≤ (6 : Int) ∧ 0 < ((u1 22 v1) + (1 : Int))) ∧ (σ = u1 ∧ 6 / (σ 22 (a * 26 + b) + 1) = ((6 : Int) / ((u1 22 v1) + (1 : Int))))))))
  refine ⟨_, am_X8_pairSlot (by omega), ?_⟩
  intro v1 u1 hv1
  rintro ⟨rfl, rfl⟩
  obtain ⟨hv1a, hv1b⟩ := hv1
  refine ⟨by (first | omega | exact ⟨by omega, by omega⟩ | exact ⟨by omega, by omega, by omega⟩ | exact ⟨by omega, by omega, by omega, by omega, by omega⟩), ?_⟩
  refine ⟨by (exact ⟨by omega, by omega⟩), ?_⟩
  refine ⟨by (first | omega | exact ⟨by omega, by omega⟩ | exact ⟨by omega, by omega, by omega⟩ | exact ⟨by omega, by omega, by omega, by omega, by omega⟩), ?_⟩
  exact ⟨rfl, rfl⟩
set_option maxRecDepth 100000 in
set_option maxHeartbeats 4000000 in
theorem am_X8_rowCodeWith {σ : zS} {c : Int} {s : Int} (h : 0 ≤ c ∧ c ≤ 3000 ∧ 0 ≤ s ∧ s < 12) : zAM 84 [.inl c, .inl s] σ (fun (v : Int) (u : zS) => σ = u ∧ (c * 13 + s + 1) = v) := by
  refine zam (by decide) (Nat.le_of_ble_eq_true rfl) ?_
  refine zwalk zmk_84 [] 2 ?_
  show (zI (c * (13 : Int)) ∧ (zI ((c * (13 : Int)) + s) ∧ (zI (((c * (13 : Int)) + s) + (1 : Int)) ∧ (σ = σ ∧ (c * 13 + s + 1) = (((c * (13 : Int)) + s) + (1 : Int))))))
  refine ⟨by (exact ⟨by omega, by omega⟩), ?_⟩
  refine ⟨by (exact ⟨by omega, by omega⟩), ?_⟩
  refine ⟨by (exact ⟨by omega, by omega⟩), ?_⟩
  exact ⟨rfl, rfl⟩
def zrc (n a b c : Int) : Int := if n = 1 then a + 1 else if n = 2 then (a + 1) * 13 + b + 1 else ((a + 1) * 13 + b + 1) * 13 + c + 1
set_option maxRecDepth 100000 in
set_option maxHeartbeats 4000000 in
theorem am_X8_rowCode {σ : zS} {n : Int} {a : Int} {b : Int} {c : Int} (h : 1 ≤ n ∧ n ≤ 3 ∧ 0 ≤ a ∧ a < 12 ∧ (n < 2 ∨ 0 ≤ b ∧ b < 12) ∧ (n < 3 ∨ 0 ≤ c ∧ c < 12)) : zAM 83 [.inl n, .inl a, .inl b, .inl c] σ (fun (v : Int) (u : zS) => σ = u ∧ zrc n a b c = v) := by
  refine zam (by decide) (Nat.le_of_ble_eq_true rfl) ?_
  refine zwalk zmk_83 [] 4 ?_
  show (∃ Rc : Int → zS → Prop, zAM 84 [.inl (0 : Int), .inl a] σ Rc ∧ ∀ (v1 : Int) (u1 : zS), zI v1 → Rc v1 u1 → ((n ≤ (1 : Int) → ((n ≤ (2 : Int) → (σ = u1 ∧ zrc n a b c = v1)) ∧ ((2 : Int) < n → (∃ Rc : Int → zS → Prop, zAM 84 [.inl v1, .inl c] u1 Rc ∧ ∀ (v2 : Int) (u2 : zS), zI v2 → Rc v2 u2 → (σ = u2 ∧ zrc n a b c = v2))))) ∧ ((1 : Int) < n → (∃ Rc : Int → zS → Prop, zAM 84 [.inl v1, .inl b] u1 Rc ∧ ∀ (v3 : Int) (u3 : zS), zI v3 → Rc v3 u3 → ((n ≤ (2 : Int) → (σ = u3 ∧ zrc n a b c = v3)) ∧ ((2 : Int) < n → (∃ Rc : Int → zS → Prop, zAM 84 [.inl v3, .inl c] u3 Rc ∧ ∀ (v4 : Int) (u4 : zS), zI v4 → Rc v4 u4 → (σ = u4 ∧ zrc n a b c = v4))))))))
  refine ⟨_, am_X8_rowCodeWith (by omega), ?_⟩
  intro v1 u1 hv1
  rintro ⟨rfl, rfl⟩
  obtain ⟨hv1a, hv1b⟩ := hv1
  refine ⟨?_, ?_⟩
  · intro h1
    refine ⟨?_, ?_⟩
    · intro h2
      exact ⟨rfl, by unfold zrc; repeat' split <;> omega⟩
    · intro h3
      refine ⟨_, am_X8_rowCodeWith (by omega), ?_⟩
      intro v2 u2 hv2
      rintro ⟨rfl, rfl⟩
      obtain ⟨hv2a, hv2b⟩ := hv2
      exact ⟨rfl, by unfold zrc; repeat' split <;> omega⟩
  · intro h4
    refine ⟨_, am_X8_rowCodeWith (by omega), ?_⟩
    intro v3 u3 hv3
    rintro ⟨rfl, rfl⟩
    obtain ⟨hv3a, hv3b⟩ := hv3
    refine ⟨?_, ?_⟩
    · intro h5
      exact ⟨rfl, by unfold zrc; repeat' split <;> omega⟩
    · intro h6
      refine ⟨_, am_X8_rowCodeWith (by omega), ?_⟩
      intro v4 u4 hv4
      rintro ⟨rfl, rfl⟩
      obtain ⟨hv4a, hv4b⟩ := hv4
      exact ⟨rfl, by unfold zrc; repeat' split <;> omega⟩
set_option maxRecDepth 100000 in
set_option maxHeartbeats 4000000 in
theorem am_X4_heap {σ : zS} {a : Int} {b : Int} {c : Int} (h : 0 ≤ a ∧ a ≤ 1000 ∧ 0 ≤ b ∧ b ≤ 3 ∧ 0 ≤ c ∧ c ≤ 26) : zAM 27 [.inl a, .inl b, .inl c] σ (fun (v : Int) (u : zS) => σ = u ∧ ((a % 4 * 3 + b) * 26 + c) = v) := by
  refine zam (by decide) (Nat.le_of_ble_eq_true rfl) ?_
  refine zwalk zmk_27 [] 2 ?_
  show ((0 ≤ a ∧ 0 < (4 : Int)) ∧ (zI ((a % (4 : Int)) * (3 : Int)) ∧ (zI (((a % (4 : Int)) * (3 : Int)) + b) ∧ (zI ((((a % (4 : Int)) * (3 : Int)) + b) * (26 : Int)) ∧ (zI (((((a % (4 : Int)) * (3 : Int)) + b) * (26 : Int)) + c) ∧ (σ = σ ∧ ((a % 4 * 3 + b) * 26 + c) = (((((a % (4 : Int)) * (3 : Int)) + b) * (26 : Int)) + c)))))))
  refine ⟨by (first | omega | exact ⟨by omega, by omega⟩ | exact ⟨by omega, by omega, by omega⟩ | exact ⟨by omega, by omega, by omega, by omega, by omega⟩), ?_⟩
  refine ⟨by (exact ⟨by omega, by omega⟩), ?_⟩
  refine ⟨by (exact ⟨by omega, by omega⟩), ?_⟩
  refine ⟨by (exact ⟨by omega, by omega⟩), ?_⟩
  refine ⟨by (exact ⟨by omega, by omega⟩), ?_⟩
  exact ⟨rfl, rfl⟩
set_option maxRecDepth 100000 in
set_option maxHeartbeats 4000000 in
theorem am_X4_dearest {σ : zS} {k : Int} (h : 0 ≤ k ∧ k < 313) : zAM 30 [.inr (.inr (6, 0)), .inl k] σ (fun (v : Int) (u : zS) => σ = u ∧ (if σ 30 k < 5 then 1000000 else σ 31 (k * 5 + 4)) = v) := by
  refine zam (by decide) (Nat.le_of_ble_eq_true rfl) ?_
  refine zwalk zmk_30 [] 3 ?_
  show ((0 ≤ k ∧ k < (313 : Int)) ∧ (((5 : Int) ≤ (σ 30 k) → (zI (k * (5 : Int)) ∧ (zI ((k * (5 : Int)) + (5 : Int)) ∧ (zI (((k * (5 : Int)) + (5 : Int)) - (1 : Int)) ∧ ((0 ≤ (((k * (5 : Int)) + (5 : Int)) - (1 : Int)) ∧ (((k * (5 : Int)) + (5 : Int)) - (1 : Int)) < (1565 : Int)) ∧ (σ = σ ∧ (if σ 30 k < 5 then 1000000 else σ 31 (k * 5 + 4)) = (σ 31 (((k * (5 : Int)) + (5 : Int)) - (1 : Int))))))))) ∧ ((σ 30 k) < (5 : Int) → (σ = σ ∧ (if σ 30 k < 5 then 1000000 else σ 31 (k * 5 + 4)) = (1000000 : Int)))))
  refine ⟨by (first | omega | exact ⟨by omega, by omega⟩ | exact ⟨by omega, by omega, by omega⟩ | exact ⟨by omega, by omega, by omega, by omega, by omega⟩), ?_⟩
  refine ⟨?_, ?_⟩
  · intro h1
    refine ⟨by (exact ⟨by omega, by omega⟩), ?_⟩
    refine ⟨by (exact ⟨by omega, by omega⟩), ?_⟩
    refine ⟨by (exact ⟨by omega, by omega⟩), ?_⟩
    refine ⟨by (first | omega | exact ⟨by omega, by omega⟩ | exact ⟨by omega, by omega, by omega⟩ | exact ⟨by omega, by omega, by omega, by omega, by omega⟩), ?_⟩
    rw [if_neg (by omega)]; exact ⟨rfl, by congr 1; omega⟩
  · intro h2
    exact ⟨rfl, if_pos (by omega)⟩
set_option maxRecDepth 100000 in
set_option maxHeartbeats 4000000 in
theorem am_X4_isAhead {σ : zS} {c : Int} {r : Int} {k : Int} (h : 0 ≤ k ∧ k < 1565) : zAM 34 [.inr (.inr (6, 0)), .inl c, .inr (.inl r), .inl k] σ (fun (v : Int) (u : zS) => σ = u ∧ (v = 1 ∧ (c < σ 31 k ∨ c = σ 31 k ∧ r < σ 32 k) ∨ v = 0 ∧ ¬ (c < σ 31 k ∨ c = σ 31 k ∧ r < σ 32 k))) := by
  refine zam (by decide) (Nat.le_of_ble_eq_true rfl) ?_
  refine zwalk zmk_34 [] 4 ?_
  show ((0 ≤ k ∧ k < (1565 : Int)) ∧ ((c < (σ 31 k) → (((1 : Int) = 0 ∨ (1 : Int) = 1) ∧ (σ = σ ∧ ((1 : Int) = 1 ∧ (c < σ 31 k ∨ c = σ 31 k ∧ r < σ 32 k) ∨ (1 : Int) = 0 ∧ ¬ (c < σ 31 k ∨ c = σ 31 k ∧ r < σ 32 k))))) ∧ ((σ 31 k) ≤ c → ((0 ≤ k ∧ k < (1565 : Int)) ∧ ((¬ c = (σ 31 k) → (((0 : Int) = 0 ∨ (0 : Int) = 1) ∧ (σ = σ ∧ ((0 : Int) = 1 ∧ (c < σ 31 k ∨ c = σ 31 k ∧ r < σ 32 k) ∨ (0 : Int) = 0 ∧ ¬ (c < σ 31 k ∨ c = σ 31 k ∧ r < σ 32 k))))) ∧ (c = (σ 31 k) → ((0 ≤ k ∧ k < (1565 : Int)) ∧ ((0 ≤ (zcmp r (σ 32 k)) → (((0 : Int) = 0 ∨ (0 : Int) = 1) ∧ (σ = σ ∧ ((0 : Int) = 1 ∧ (c < σ 31 k ∨ c = σ 31 k ∧ r < σ 32 k) ∨ (0 : Int) = 0 ∧ ¬ (c < σ 31 k ∨ c = σ 31 k ∧ r < σ 32 k))))) ∧ ((zcmp r (σ 32 k)) < 0 → (((1 : Int) = 0 ∨ (1 : Int) = 1) ∧ (σ = σ ∧ ((1 : Int) = 1 ∧ (c < σ 31 k ∨ c = σ 31 k ∧ r < σ 32 k) ∨ (1 : Int) = 0 ∧ ¬ (c < σ 31 k ∨ c = σ 31 k ∧ r < σ 32 k)))))))))))))
  refine ⟨by (first | omega | exact ⟨by omega, by omega⟩ | exact ⟨by omega, by omega, by omega⟩ | exact ⟨by omega, by omega, by omega, by omega, by omega⟩), ?_⟩
  refine ⟨?_, ?_⟩
  · intro h1
    refine ⟨by (omega), ?_⟩
    exact ⟨rfl, by omega⟩
  · intro h2
    refine ⟨by (first | omega | exact ⟨by omega, by omega⟩ | exact ⟨by omega, by omega, by omega⟩ | exact ⟨by omega, by omega, by omega, by omega, by omega⟩), ?_⟩
    refine ⟨?_, ?_⟩
    · intro h3
      refine ⟨by (omega), ?_⟩
      exact ⟨rfl, by omega⟩
    · intro h4
      refine ⟨by (first | omega | exact ⟨by omega, by omega⟩ | exact ⟨by omega, by omega, by omega⟩ | exact ⟨by omega, by omega, by omega, by omega, by omega⟩), ?_⟩
      refine ⟨?_, ?_⟩
      · intro h5
        simp only [zc_lt, zc_ge, zc_gt, zc_le, zc_eq] at h5
        refine ⟨by (omega), ?_⟩
        exact ⟨rfl, by omega⟩
      · intro h6
        simp only [zc_lt, zc_ge, zc_gt, zc_le, zc_eq] at h6
        refine ⟨by (omega), ?_⟩
        exact ⟨rfl, by omega⟩
set_option maxRecDepth 100000 in
set_option maxHeartbeats 4000000 in
theorem am_X4_told {σ : zS} : zAM 35 [.inr (.inr (6, 0))] σ (fun (v : Int) (u : zS) => σ = u ∧ (σ 30 312) = v) := by
  refine zam (by decide) (Nat.le_of_ble_eq_true rfl) ?_
  refine zwalk zmk_35 [] 2 ?_
  show ((0 ≤ (312 : Int) ∧ (312 : Int) < (313 : Int)) ∧ (σ = σ ∧ (σ 30 312) = (σ 30 (312 : Int))))
  refine ⟨by (first | omega | exact ⟨by omega, by omega⟩ | exact ⟨by omega, by omega, by omega⟩ | exact ⟨by omega, by omega, by omega, by omega, by omega⟩), ?_⟩
  exact ⟨rfl, rfl⟩
set_option maxRecDepth 100000 in
set_option maxHeartbeats 4000000 in
theorem am_X4_cost {σ : zS} {i : Int} (h : 0 ≤ i ∧ i < 5) : zAM 36 [.inr (.inr (6, 0)), .inl i] σ (fun (v : Int) (u : zS) => σ = u ∧ (σ 31 (1560 + i)) = v) := by
  refine zam (by decide) (Nat.le_of_ble_eq_true rfl) ?_
  refine zwalk zmk_36 [] 2 ?_
  show (zI ((1560 : Int) + i) ∧ ((0 ≤ ((1560 : Int) + i) ∧ ((1560 : Int) + i) < (1565 : Int)) ∧ (σ = σ ∧ (σ 31 (1560 + i)) = (σ 31 ((1560 : Int) + i)))))
  refine ⟨by (exact ⟨by omega, by omega⟩), ?_⟩
  refine ⟨by (first | omega | exact ⟨by omega, by omega⟩ | exact ⟨by omega, by omega, by omega⟩ | exact ⟨by omega, by omega, by omega, by omega, by omega⟩), ?_⟩
  exact ⟨rfl, rfl⟩
set_option maxRecDepth 100000 in
set_option maxHeartbeats 4000000 in
theorem am_X4_word {σ : zS} {i : Int} (h : 0 ≤ i ∧ i < 5) : zAM 37 [.inr (.inr (6, 0)), .inl i] σ (fun (v : Int) (u : zS) => σ = u ∧ (σ 32 (1560 + i)) = v) := by
  refine zam (by decide) (Nat.le_of_ble_eq_true rfl) ?_
  refine zwalk zmk_37 [] 2 ?_
  show (zI ((1560 : Int) + i) ∧ ((0 ≤ ((1560 : Int) + i) ∧ ((1560 : Int) + i) < (1565 : Int)) ∧ (σ = σ ∧ (σ 32 (1560 + i)) = (σ 32 ((1560 : Int) + i)))))
  refine ⟨by (exact ⟨by omega, by omega⟩), ?_⟩
  refine ⟨by (first | omega | exact ⟨by omega, by omega⟩ | exact ⟨by omega, by omega, by omega⟩ | exact ⟨by omega, by omega, by omega, by omega, by omega⟩), ?_⟩
  exact ⟨rfl, rfl⟩
set_option maxRecDepth 100000 in
set_option maxHeartbeats 4000000 in
theorem am_X7_clear {σ : zS} : zAM 48 [.inr (.inr (4, 0))] σ (fun (v : Int) (u : zS) => zup (zup σ 4 0 0) 4 1 0 = u ∧ σ 4 1 = v) := by
  refine zam (by decide) (Nat.le_of_ble_eq_true rfl) ?_
  refine zwalk zmk_48 [] 2 ?_
  show (zup (zup σ 4 0 0) 4 1 0 = (zup (zup σ 4 (0 : Int) (0 : Int)) 4 (1 : Int) (0 : Int)) ∧ σ 4 1 = (σ 4 (1 : Int)))
  exact ⟨rfl, rfl⟩
def zplace (σ : zS) (w : Int) (v : Int) : Prop := (0 ≤ v ∧ v < σ 4 3 ∧ σ 28 v = w ∧ ∀ j : Int, 0 ≤ j → j < v → ¬ σ 28 j = w) ∨ v = -1 ∧ ∀ j : Int, 0 ≤ j → j < σ 4 3 → ¬ σ 28 j = w
set_option maxRecDepth 100000 in
set_option maxHeartbeats 4000000 in
theorem lp_placeOf {w : Int} {σ : zS} (hf : 0 ≤ σ 4 3 ∧ σ 4 3 ≤ 30) : ∀ (n : Nat) (k : Int), σ 4 3 - k < (n : Int) → (0 ≤ k ∧ k ≤ σ 4 3) → (∀ j : Int, 0 ≤ j → j < k → ¬ σ 28 j = w) → zRuns 49 zX0 (fun (v : Int) (u : zS) => σ = u ∧ zplace σ w v) 2 [some (.inr (.inr (4, 0))), some (.inr (.inl w)), none, some (.inl k)] [] σ := by
  intro n
  induction n with
  | zero =>
    intro k hn h0 hk
    exfalso
    omega
  | succ n ih =>
    intro k hn h0 hk
    refine zwalk zmk_49 [(2, [true, true, false, true])] 3 ?_
    show (((σ 4 (3 : Int)) ≤ k → (σ = σ ∧ zplace σ w (-1 : Int))) ∧ (k < (σ 4 (3 : Int)) → ((0 ≤ k ∧ k < (30 : Int)) ∧ ((¬ (zcmp (σ 28 k) w) = 0 → (zI (k + (1 : Int)) ∧ zRuns 49 zX0 (fun (v : Int) (u : zS) => σ = u ∧ zplace σ w v) 2 [some (.inr (.inr (4, 0))), some (.inr (.inl w)), none, some (.inl (k + (1 : Int)))] [] σ)) ∧ ((zcmp (σ 28 k) w) = 0 → (σ = σ ∧ zplace σ w k))))))
    refine ⟨?_, ?_⟩
    · intro h1
      exact ⟨rfl, Or.inr ⟨rfl, fun j h7 h8 => hk j h7 (by omega)⟩⟩
    · intro h2
      refine ⟨by (first | omega | exact ⟨by omega, by omega⟩ | exact ⟨by omega, by omega, by omega⟩ | exact ⟨by omega, by omega, by omega, by omega, by omega⟩), ?_⟩
      refine ⟨?_, ?_⟩
      · intro h3
        simp only [zc_lt, zc_ge, zc_gt, zc_le, zc_eq] at h3
        refine ⟨by (exact ⟨by omega, by omega⟩), ?_⟩
        exact ih _ (by omega) (by omega) (fun j h7 h8 q => by
          by_cases e : j = k
          · rw [e] at q; contradiction
          · exact hk j h7 (by omega) q)
      · intro h4
        simp only [zc_lt, zc_ge, zc_gt, zc_le, zc_eq] at h4
        exact ⟨rfl, Or.inl ⟨by omega, by omega, by assumption, hk⟩⟩
set_option maxRecDepth 100000 in
set_option maxHeartbeats 4000000 in
theorem am_X7_placeOf {σ : zS} {w : Int} (hf : 0 ≤ σ 4 3 ∧ σ 4 3 ≤ 30) : zAM 49 [.inr (.inr (4, 0)), .inr (.inl w)] σ (fun (v : Int) (u : zS) => σ = u ∧ zplace σ w v) := by
  refine zam (by decide) (Nat.le_of_ble_eq_true rfl) ?_
  refine zwalk zmk_49 [(2, [true, true, false, true])] 2 ?_
  show zRuns 49 zX0 (fun (v : Int) (u : zS) => σ = u ∧ zplace σ w v) 2 [some (.inr (.inr (4, 0))), some (.inr (.inl w)), none, some (.inl (0 : Int))] [] σ
  exact lp_placeOf hf 31 0 (by omega) (by omega) (fun j _ _ => by omega)
set_option maxRecDepth 100000 in
set_option maxHeartbeats 4000000 in
theorem am_X8_begin {σ : zS} {b : Int} (h : 0 ≤ σ 0 10) : zAM 93 [.inr (.inr (0, 0)), .inl b] σ (fun (v : Int) (u : zS) => (if σ 0 10 < 16 then zup (zup σ 10 (σ 0 10) b) 0 10 (σ 0 10 + 1) else σ) = u) := by
  refine zam (by decide) (Nat.le_of_ble_eq_true rfl) ?_
  refine zwalk zmk_93 [] 3 ?_
  show (((16 : Int) ≤ (σ 0 (10 : Int)) → ((if σ 0 10 < 16 then zup (zup σ 10 (σ 0 10) b) 0 10 (σ 0 10 + 1) else σ) = σ)) ∧ ((σ 0 (10 : Int)) < (16 : Int) → ((0 ≤ (σ 0 (10 : Int)) ∧ (σ 0 (10 : Int)) < (16 : Int)) ∧ (zI ((σ 0 (10 : Int)) + (1 : Int)) ∧ ((if σ 0 10 < 16 then zup (zup σ 10 (σ 0 10) b) 0 10 (σ 0 10 + 1) else σ) = (zup (zup σ 10 (σ 0 (10 : Int)) b) 0 (10 : Int) ((σ 0 (10 : Int)) + (1 : Int))))))))
  refine ⟨?_, ?_⟩
  · intro h1
    exact if_neg (by omega)
  · intro h2
    refine ⟨by (first | omega | exact ⟨by omega, by omega⟩ | exact ⟨by omega, by omega, by omega⟩ | exact ⟨by omega, by omega, by omega, by omega, by omega⟩), ?_⟩
    refine ⟨by (exact ⟨by omega, by omega⟩), ?_⟩
    exact if_pos (by omega)
set_option maxRecDepth 100000 in
set_option maxHeartbeats 4000000 in
theorem am_X8_loose {σ : zS} : zAM 58 [.inr (.inr (0, 0))] σ (fun (v : Int) (u : zS) => σ = u ∧ (σ 2 11) = v) := by
  refine zam (by decide) (Nat.le_of_ble_eq_true rfl) ?_
  refine zwalk zmk_58 [] 2 ?_
  show (σ = σ ∧ (σ 2 11) = (σ 2 (11 : Int)))
  exact ⟨rfl, rfl⟩
set_option maxRecDepth 100000 in
set_option maxHeartbeats 4000000 in
theorem am_X8_status {σ : zS} : zAM 75 [.inr (.inr (0, 0))] σ (fun (v : Int) (u : zS) => σ = u ∧ (σ 0 11) = v) := by
  refine zam (by decide) (Nat.le_of_ble_eq_true rfl) ?_
  refine zwalk zmk_75 [] 2 ?_
  show (σ = σ ∧ (σ 0 11) = (σ 0 (11 : Int)))
  exact ⟨rfl, rfl⟩
set_option maxRecDepth 100000 in
set_option maxHeartbeats 4000000 in
theorem am_X8_wipe {σ : zS} : zAM 64 [.inr (.inr (0, 0))] σ (fun (v : Int) (u : zS) => zup (zup σ 4 0 0) 4 1 0 = u ∧ σ 4 1 = v) := by
  refine zam (by decide) (Nat.le_of_ble_eq_true rfl) ?_
  refine zwalk zmk_64 [] 2 ?_
  show (∃ Rc : Int → zS → Prop, zAM 48 [.inr (.inr (4, 0))] σ Rc ∧ ∀ (v1 : Int) (u1 : zS), zI v1 → Rc v1 u1 → (zup (zup σ 4 0 0) 4 1 0 = u1 ∧ σ 4 1 = v1))
  refine ⟨_, am_X7_clear, ?_⟩
  intro v1 u1 hv1
  rintro ⟨rfl, rfl⟩
  obtain ⟨hv1a, hv1b⟩ := hv1
  exact ⟨rfl, rfl⟩
set_option maxRecDepth 100000 in
set_option maxHeartbeats 4000000 in
theorem am_X8_trace {σ : zS} {i : Int} (h : σ 0 10 ≤ 16) : zAM 73 [.inr (.inr (0, 0)), .inl i] σ (fun (v : Int) (u : zS) => σ = u ∧ (if 0 ≤ i ∧ i < σ 0 10 then σ 10 i else -1000000) = v) := by
  refine zam (by decide) (Nat.le_of_ble_eq_true rfl) ?_
  refine zwalk zmk_73 [] 4 ?_
  show ((i < 0 → (σ = σ ∧ (if 0 ≤ i ∧ i < σ 0 10 then σ 10 i else -1000000) = (-1000000 : Int))) ∧ (0 ≤ i → ((i < (σ 0 (10 : Int)) → ((0 ≤ i ∧ i < (16 : Int)) ∧ (σ = σ ∧ (if 0 ≤ i ∧ i < σ 0 10 then σ 10 i else -1000000) = (σ 10 i)))) ∧ ((σ 0 (10 : Int)) ≤ i → (σ = σ ∧ (if 0 ≤ i ∧ i < σ 0 10 then σ 10 i else -1000000) = (-1000000 : Int))))))
  refine ⟨?_, ?_⟩
  · intro h1
    exact ⟨rfl, if_neg (by omega)⟩
  · intro h2
    refine ⟨?_, ?_⟩
    · intro h3
      refine ⟨by (first | omega | exact ⟨by omega, by omega⟩ | exact ⟨by omega, by omega, by omega⟩ | exact ⟨by omega, by omega, by omega, by omega, by omega⟩), ?_⟩
      exact ⟨rfl, if_pos (by omega)⟩
    · intro h4
      exact ⟨rfl, if_neg (by omega)⟩
