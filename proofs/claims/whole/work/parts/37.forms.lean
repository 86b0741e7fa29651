theorem zslot_r {σ : zS} {a b w : Int} (h : zslot σ a b w) (hf : σ 3 3 ≤ 512) : -1 ≤ w ∧ w < 1188 := by
  rcases h with ⟨j, j0, j1, j2, j3, e⟩ | ⟨e, -⟩
  · omega
  · omega
set_option maxRecDepth 100000 in
set_option maxHeartbeats 4000000 in
theorem am_X8_seen {σ : zS} {l : Int} {m : Int} {a : Int} {b : Int} {c : Int} (hf : 0 ≤ σ 3 3 ∧ σ 3 3 ≤ 512) : zAM 60 [.inr (.inr (0, 0)), .inl l, .inl m, .inl a, .inl b, .inl c] σ (fun (v : Int) (u : zS) => ((¬ ((0 ≤ l ∧ l < 26) ∧ 1 ≤ m ∧ m ≤ 3 ∧ 0 ≤ a ∧ a < 12 ∧ (m < 2 ∨ 0 ≤ b ∧ b < 12) ∧ (m < 3 ∨ 0 ≤ c ∧ c < 12))) ∧ σ = u ∧ -1000001 = v) ∨ (((0 ≤ l ∧ l < 26) ∧ 1 ≤ m ∧ m ≤ 3 ∧ 0 ≤ a ∧ a < 12 ∧ (m < 2 ∨ 0 ≤ b ∧ b < 12) ∧ (m < 3 ∨ 0 ≤ c ∧ c < 12)) ∧ σ = u ∧ ∃ w : Int, zslot σ l (zrc m a b c) w ∧ (w < 0 ∧ 0 = v ∨ 0 ≤ w ∧ σ 22 w = v))) := by
  refine zam (by decide) (Nat.le_of_ble_eq_true rfl) ?_
  refine zwalk zmk_60 [] 4 ?_
  show (∃ Rc : Int → zS → Prop, zAM 80 [.inl l] σ Rc ∧ ∀ (v1 : Int) (u1 : zS), zI v1 → Rc v1 u1 → ((v1 = 0 → (((¬ ((0 ≤ l ∧ l < 26) ∧ 1 ≤ m ∧ m ≤ 3 ∧ 0 ≤ a ∧ a < 12 ∧ (m < 2 ∨ 0 ≤ b ∧ b < 12) ∧ (m < 3 ∨ 0 ≤ c ∧ c < 12))) ∧ σ = u1 ∧ -1000001 = (-1000001 : Int)) ∨ (((0 ≤ l ∧ l < 26) ∧ 1 ≤ m ∧ m ≤ 3 ∧ 0 ≤ a ∧ a < 12 ∧ (m < 2 ∨ 0 ≤ b ∧ b < 12) ∧ (m < 3 ∨ 0 ≤ c ∧ c < 12)) ∧ σ = u1 ∧ ∃ w : Int, zslot σ l (zrc m a b c) w ∧ (w < 0 ∧ 0 = (-1000001 : Int) ∨ 0 ≤ w ∧ σ 22 w = (-1000001 : Int))))) ∧ (¬ v1 = 0 → (∃ Rc : Int → zS → Prop, zAM 82 [.inl m, .inl a, .inl b, .inl c] u1 Rc ∧ ∀ (v2 : Int) (u2 : zS), zI v2 → Rc v2 u2 → ((¬ v2 = 0 → (∃ Rc : Int → zS → Prop, zAM 83 [.inl m, .inl a, .inl b, .inl c] u2 Rc ∧ ∀ (v3 : Int) (u3 : zS), zI v3 → Rc v3 u3 → (∃ Rc : Int → zS → Prop, zAM 0 [.inr (.inr (3, 0)), .inl l, .inl v3] u3 Rc ∧ ∀ (v4 : Int) (u4 : zS), zI v4 → Rc v4 u4 → ((0 ≤ v4 → ((0 ≤ v4 ∧ v4 < (1188 : Int)) ∧ (((¬ ((0 ≤ l ∧ l < 26) ∧ 1 ≤ m ∧ m ≤ 3 ∧ 0 ≤ a ∧ a < 12 ∧ (m < 2 ∨ 0 ≤ b ∧ b < 12) ∧ (m < 3 ∨ 0 ≤ c ∧ c < 12))) ∧ σ = u4 ∧ -1000001 = (u4 22 v4)) ∨ (((0 ≤ l ∧ l < 26) ∧ 1 ≤ m ∧ m ≤ 3 ∧ 0 ≤ a ∧ a < 12 ∧ (m < 2 ∨ 0 ≤ b ∧ b < 12) ∧ (m < 3 ∨ 0 ≤ c ∧ c < 12)) ∧ σ = u4 ∧ ∃ w : Int, zslot σ l (zrc m a b c) w ∧ (w < 0 ∧ 0 = (u4 22 v4) ∨ 0 ≤ w ∧ σ 22 w = (u4 22 v4)))))) ∧ (v4 < 0 → (((¬ ((0 ≤ l ∧ l < 26) ∧ 1 ≤ m ∧ m ≤ 3 ∧ 0 ≤ a ∧ a < 12 ∧ (m < 2 ∨ 0 ≤ b ∧ b < 12) ∧ (m < 3 ∨ 0 ≤ c ∧ c < 12))) ∧ σ = u4 ∧ -1000001 = (0 : Int)) ∨ (((0 ≤ l ∧ l < 26) ∧ 1 ≤ m ∧ m ≤ 3 ∧ 0 ≤ a ∧ a < 12 ∧ (m < 2 ∨ 0 ≤ b ∧ b < 12) ∧ (m < 3 ∨ 0 ≤ c ∧ c < 12)) ∧ σ = u4 ∧ ∃ w : Int, zslot σ l (zrc m a b c) w ∧ (w < 0 ∧ 0 = (0 : Int) ∨ 0 ≤ w ∧ σ 22 w = (0 : Int))))))))) ∧ (v2 = 0 → (((¬ ((0 ≤ l ∧ l < 26) ∧ 1 ≤ m ∧ m ≤ 3 ∧ 0 ≤ a ∧ a < 12 ∧ (m < 2 ∨ 0 ≤ b ∧ b < 12) ∧ (m < 3 ∨ 0 ≤ c ∧ c < 12))) ∧ σ = u2 ∧ -1000001 = (-1000001 : Int)) ∨ (((0 ≤ l ∧ l < 26) ∧ 1 ≤ m ∧ m ≤ 3 ∧ 0 ≤ a ∧ a < 12 ∧ (m < 2 ∨ 0 ≤ b ∧ b < 12) ∧ (m < 3 ∨ 0 ≤ c ∧ c < 12)) ∧ σ = u2 ∧ ∃ w : Int, zslot σ l (zrc m a b c) w ∧ (w < 0 ∧ 0 = (-1000001 : Int) ∨ 0 ≤ w ∧ σ 22 w = (-1000001 : Int))))))))))
  refine ⟨_, am_X8_isLetter, ?_⟩
  intro v1 u1 hv1
  rintro ⟨rfl, (⟨rfl, cv1⟩ | ⟨rfl, cv1⟩)⟩
  · refine ⟨?_, ?_⟩
    · exact fun h => absurd h (by decide)
    · intro _
      refine ⟨_, am_X8_isRow, ?_⟩
      intro v2 u2 hv2
      rintro ⟨rfl, (⟨rfl, cv2⟩ | ⟨rfl, cv2⟩)⟩
      · refine ⟨?_, ?_⟩
        · intro _
          refine ⟨_, am_X8_rowCode (by omega), ?_⟩
          intro v3 u3 hv3
          rintro ⟨rfl, rfl⟩
          obtain ⟨hv3a, hv3b⟩ := hv3
          refine ⟨_, am_X0_slotOf (hf), ?_⟩
          intro v4 u4 hv4
          rintro ⟨rfl, ev4⟩
          obtain ⟨hv4a, hv4b⟩ := hv4
          have hrv4 := zslot_r ev4 (by omega)
          refine ⟨?_, ?_⟩
          · intro h3
            refine ⟨by (first | exact ⟨by omega, by omega⟩ | (exfalso; omega)), ?_⟩
            first | exact Or.inl ⟨by omega, rfl, rfl⟩ | exact Or.inr ⟨by omega, rfl, _, by assumption, Or.inl ⟨by omega, rfl⟩⟩ | exact Or.inr ⟨by omega, rfl, _, by assumption, Or.inr ⟨by omega, rfl⟩⟩
          · intro h4
            first | exact Or.inl ⟨by omega, rfl, rfl⟩ | exact Or.inr ⟨by omega, rfl, _, by assumption, Or.inl ⟨by omega, rfl⟩⟩ | exact Or.inr ⟨by omega, rfl, _, by assumption, Or.inr ⟨by omega, rfl⟩⟩
        · exact fun h => absurd h (by decide)
      · refine ⟨?_, ?_⟩
        · exact fun h => absurd h (by decide)
        · intro _
          first | exact Or.inl ⟨by omega, rfl, rfl⟩ | exact Or.inr ⟨by omega, rfl, _, by assumption, Or.inl ⟨by omega, rfl⟩⟩ | exact Or.inr ⟨by omega, rfl, _, by assumption, Or.inr ⟨by omega, rfl⟩⟩
  · refine ⟨?_, ?_⟩
    · intro _
      first | exact Or.inl ⟨by omega, rfl, rfl⟩ | exact Or.inr ⟨by omega, rfl, _, by assumption, Or.inl ⟨by omega, rfl⟩⟩ | exact Or.inr ⟨by omega, rfl, _, by assumption, Or.inr ⟨by omega, rfl⟩⟩
    · exact fun h => absurd h (by decide)
set_option maxRecDepth 100000 in
set_option maxHeartbeats 4000000 in
theorem am_X8_form {σ : zS} {l : Int} {m : Int} {a : Int} {b : Int} {c : Int} {o : Int} (hf : 0 ≤ σ 3 3 ∧ σ 3 3 ≤ 511) (hcr : ∀ j : Int, 0 ≤ j → j < 1188 → 0 ≤ σ 22 j ∧ σ 22 j ≤ 999) (hu : 0 ≤ σ 3 6) : zAM 59 [.inr (.inr (0, 0)), .inl l, .inl m, .inl a, .inl b, .inl c, .inl o] σ (fun (v : Int) (u : zS) => ((¬ ((0 ≤ l ∧ l < 26) ∧ 1 ≤ m ∧ m ≤ 3 ∧ 0 ≤ a ∧ a < 12 ∧ (m < 2 ∨ 0 ≤ b ∧ b < 12) ∧ (m < 3 ∨ 0 ≤ c ∧ c < 12)) ∨ ¬ (1 ≤ o ∧ o ≤ 99)) ∧ σ = u ∧ -1000001 = v) ∨ ((((0 ≤ l ∧ l < 26) ∧ 1 ≤ m ∧ m ≤ 3 ∧ 0 ≤ a ∧ a < 12 ∧ (m < 2 ∨ 0 ≤ b ∧ b < 12) ∧ (m < 3 ∨ 0 ≤ c ∧ c < 12)) ∧ 1 ≤ o ∧ o ≤ 99) ∧ ∃ (w : Int) (τ : zS), ((zslot σ l (zrc m a b c) w ∧ 0 ≤ w ∧ σ = τ) ∨ (zslot σ l (zrc m a b c) (-1) ∧ zup (zup (zup σ 23 (σ 3 3) l) 24 (σ 3 3) (zrc m a b c)) 3 3 (σ 3 3 + 1) = τ ∧ 676 + σ 3 3 = w)) ∧ zup (if 0 < τ 3 8 ∧ τ 3 6 < 1024 then zup (zup (zup (zup τ 0 4 (-1)) 25 (τ 3 6) w) 26 (τ 3 6) (τ 22 w)) 3 6 (τ 3 6 + 1) else zup τ 0 4 (-1)) 22 w (min 999 (τ 22 w + o)) = u ∧ min 999 (τ 22 w + o) = v)) := by
  refine zam (by decide) (Nat.le_of_ble_eq_true rfl) ?_
  refine zwalk zmk_59 [] 4 ?_
  show (∃ Rc : Int → zS → Prop, zAM 80 [.inl l] σ Rc ∧ ∀ (v1 : Int) (u1 : zS), zI v1 → Rc v1 u1 → ((v1 = 0 → (((¬ ((0 ≤ l ∧ l < 26) ∧ 1 ≤ m ∧ m ≤ 3 ∧ 0 ≤ a ∧ a < 12 ∧ (m < 2 ∨ 0 ≤ b ∧ b < 12) ∧ (m < 3 ∨ 0 ≤ c ∧ c < 12)) ∨ ¬ (1 ≤ o ∧ o ≤ 99)) ∧ σ = u1 ∧ -1000001 = (-1000001 : Int)) ∨ ((((0 ≤ l ∧ l < 26) ∧ 1 ≤ m ∧ m ≤ 3 ∧ 0 ≤ a ∧ a < 12 ∧ (m < 2 ∨ 0 ≤ b ∧ b < 12) ∧ (m < 3 ∨ 0 ≤ c ∧ c < 12)) ∧ 1 ≤ o ∧ o ≤ 99) ∧ ∃ (w : Int) (τ : zS), ((zslot σ l (zrc m a b c) w ∧ 0 ≤ w ∧ σ = τ) ∨ (zslot σ l (zrc m a b c) (-1) ∧ zup (zup (zup σ 23 (σ 3 3) l) 24 (σ 3 3) (zrc m a b c)) 3 3 (σ 3 3 + 1) = τ ∧ 676 + σ 3 3 = w)) ∧ zup (if 0 < τ 3 8 ∧ τ 3 6 < 1024 then zup (zup (zup (zup τ 0 4 (-1)) 25 (τ 3 6) w) 26 (τ 3 6) (τ 22 w)) 3 6 (τ 3 6 + 1) else zup τ 0 4 (-1)) 22 w (min 999 (τ 22 w + o)) = u1 ∧ min 999 (τ 22 w + o) = (-1000001 : Int)))) ∧ (¬ v1 = 0 → (∃ Rc : Int → zS → Prop, zAM 82 [.inl m, .inl a, .inl b, .inl c] u1 Rc ∧ ∀ (v2 : Int) (u2 : zS), zI v2 → Rc v2 u2 → ((v2 = 0 → (((¬ ((0 ≤ l ∧ l < 26) ∧ 1 ≤ m ∧ m ≤ 3 ∧ 0 ≤ a ∧ a < 12 ∧ (m < 2 ∨ 0 ≤ b ∧ b < 12) ∧ (m < 3 ∨ 0 ≤ c ∧ c < 12)) ∨ ¬ (1 ≤ o ∧ o ≤ 99)) ∧ σ = u2 ∧ -1000001 = (-1000001 : Int)) ∨ ((((0 ≤ l ∧ l < 26) ∧ 1 ≤ m ∧ m ≤ 3 ∧ 0 ≤ a ∧ a < 12 ∧ (m < 2 ∨ 0 ≤ b ∧ b < 12) ∧ (m < 3 ∨ 0 ≤ c ∧ c < 12)) ∧ 1 ≤ o ∧ o ≤ 99) ∧ ∃ (w : Int) (τ : zS), ((zslot σ l (zrc m a b c) w ∧ 0 ≤ w ∧ σ = τ) ∨ (zslot σ l (zrc m a b c) (-1) ∧ zup (zup (zup σ 23 (σ 3 3) l) 24 (σ 3 3) (zrc m a b c)) 3 3 (σ 3 3 + 1) = τ ∧ 676 + σ 3 3 = w)) ∧ zup (if 0 < τ 3 8 ∧ τ 3 6 < 1024 then zup (zup (zup (zup τ 0 4 (-1)) 25 (τ 3 6) w) 26 (τ 3 6) (τ 22 w)) 3 6 (τ 3 6 + 1) else zup τ 0 4 (-1)) 22 w (min 999 (τ 22 w + o)) = u2 ∧ min 999 (τ 22 w + o) = (-1000001 : Int)))) ∧ (¬ v2 = 0 → ((o < (1 : Int) → (((¬ ((0 ≤ l ∧ l < 26) ∧ 1 ≤ m ∧ m ≤ 3 ∧ 0 ≤ a ∧ a < 12 ∧ (m < 2 ∨ 0 ≤ b ∧ b < 12) ∧ (m < 3 ∨ 0 ≤ c ∧ c < 12)) ∨ ¬ (1 ≤ o ∧ o ≤ 99)) ∧ σ = u2 ∧ -1000001 = (-1000001 : Int)) ∨ ((((0 ≤ l ∧ l < 26) ∧ 1 ≤ m ∧ m ≤ 3 ∧ 0 ≤ a ∧ a < 12 ∧ (m < 2 ∨ 0 ≤ b ∧ b < 12) ∧ (m < 3 ∨ 0 ≤ c ∧ c < 12)) ∧ 1 ≤ o ∧ o ≤ 99) ∧ ∃ (w : Int) (τ : zS), ((zslot σ l (zrc m a b c) w ∧ 0 ≤ w ∧ σ = τ) ∨ (zslot σ l (zrc m a b c) (-1) ∧ zup (zup (zup σ 23 (σ 3 3) l) 24 (σ 3 3) (zrc m a b c)) 3 3 (σ 3 3 + 1) = τ ∧ 676 + σ 3 3 = w)) ∧ zup (if 0 < τ 3 8 ∧ τ 3 6 < 1024 then zup (zup (zup (zup τ 0 4 (-1)) 25 (τ 3 6) w) 26 (τ 3 6) (τ 22 w)) 3 6 (τ 3 6 + 1) else zup τ 0 4 (-1)) 22 w (min 999 (τ 22 w + o)) = u2 ∧ min 999 (τ 22 w + o) = (-1000001 : Int)))) ∧ ((1 : Int) ≤ o → ((o ≤ (99 : Int) → (∃ Rc : Int → zS → Prop, zAM 83 [.inl m, .inl a, .inl b, .inl c] u2 Rc ∧ ∀ (v3 : Int) (u3 : zS), zI v3 → Rc v3 u3 → (∃ Rc : Int → zS → Prop, zAM 1 [.inr (.inr (3, 0)), .inl l, .inl v3] u3 Rc ∧ ∀ (v4 : Int) (u4 : zS), zI v4 → Rc v4 u4 → ((0 ≤ v4 → (∃ Rc : Int → zS → Prop, zAM 2 [.inr (.inr (3, 0)), .inl v4, .inl o] (zup u4 0 (4 : Int) (-1 : Int)) Rc ∧ ∀ (v5 : Int) (u5 : zS), zI v5 → Rc v5 u5 → (((¬ ((0 ≤ l ∧ l < 26) ∧ 1 ≤ m ∧ m ≤ 3 ∧ 0 ≤ a ∧ a < 12 ∧ (m < 2 ∨ 0 ≤ b ∧ b < 12) ∧ (m < 3 ∨ 0 ≤ c ∧ c < 12)) ∨ ¬ (1 ≤ o ∧ o ≤ 99)) ∧ σ = u5 ∧ -1000001 = v5) ∨ ((((0 ≤ l ∧ l < 26) ∧ 1 ≤ m ∧ m ≤ 3 ∧ 0 ≤ a ∧ a < 12 ∧ (m < 2 ∨ 0 ≤ b ∧ b < 12) ∧ (m < 3 ∨ 0 ≤ c ∧ c < 12)) ∧ 1 ≤ o ∧ o ≤ 99) ∧ ∃ (w : Int) (τ : zS), ((zslot σ l (zrc m a b c) w ∧ 0 ≤ w ∧ σ = τ) ∨ (zslot σ l (zrc m a b c) (-1) ∧ zup (zup (zup σ 23 (σ 3 3) l) 24 (σ 3 3) (zrc m a b c)) 3 3 (σ 3 3 + 1) = τ ∧ 676 + σ 3 3 = w)) ∧ zup (if 0 < τ 3 8 ∧ τ 3 6 < 1024 then zup (zup (zup (zup τ 0 4 (-1)) 25 (τ 3 6) w) 26 (τ 3 6) (τ 22 w)) 3 6 (τ 3 6 + 1) else zup τ 0 4 (-1)) 22 w (min 999 (τ 22 w + o)) = u5 ∧ min 999 (τ 22 w + o) = v5)))) ∧ (v4 < 0 → (((¬ ((0 ≤ l ∧ l < 26) ∧ 1 ≤ m ∧ m ≤ 3 ∧ 0 ≤ a ∧ a < 12 ∧ (m < 2 ∨ 0 ≤ b ∧ b < 12) ∧ (m < 3 ∨ 0 ≤ c ∧ c < 12)) ∨ ¬ (1 ≤ o ∧ o ≤ 99)) ∧ σ = u4 ∧ -1000001 = (-1000003 : Int)) ∨ ((((0 ≤ l ∧ l < 26) ∧ 1 ≤ m ∧ m ≤ 3 ∧ 0 ≤ a ∧ a < 12 ∧ (m < 2 ∨ 0 ≤ b ∧ b < 12) ∧ (m < 3 ∨ 0 ≤ c ∧ c < 12)) ∧ 1 ≤ o ∧ o ≤ 99) ∧ ∃ (w : Int) (τ : zS), ((zslot σ l (zrc m a b c) w ∧ 0 ≤ w ∧ σ = τ) ∨ (zslot σ l (zrc m a b c) (-1) ∧ zup (zup (zup σ 23 (σ 3 3) l) 24 (σ 3 3) (zrc m a b c)) 3 3 (σ 3 3 + 1) = τ ∧ 676 + σ 3 3 = w)) ∧ zup (if 0 < τ 3 8 ∧ τ 3 6 < 1024 then zup (zup (zup (zup τ 0 4 (-1)) 25 (τ 3 6) w) 26 (τ 3 6) (τ 22 w)) 3 6 (τ 3 6 + 1) else zup τ 0 4 (-1)) 22 w (min 999 (τ 22 w + o)) = u4 ∧ min 999 (τ 22 w + o) = (-1000003 : Int)))))))) ∧ ((99 : Int) < o → (((¬ ((0 ≤ l ∧ l < 26) ∧ 1 ≤ m ∧ m ≤ 3 ∧ 0 ≤ a ∧ a < 12 ∧ (m < 2 ∨ 0 ≤ b ∧ b < 12) ∧ (m < 3 ∨ 0 ≤ c ∧ c < 12)) ∨ ¬ (1 ≤ o ∧ o ≤ 99)) ∧ σ = u2 ∧ -1000001 = (-1000001 : Int)) ∨ ((((0 ≤ l ∧ l < 26) ∧ 1 ≤ m ∧ m ≤ 3 ∧ 0 ≤ a ∧ a < 12 ∧ (m < 2 ∨ 0 ≤ b ∧ b < 12) ∧ (m < 3 ∨ 0 ≤ c ∧ c < 12)) ∧ 1 ≤ o ∧ o ≤ 99) ∧ ∃ (w : Int) (τ : zS), ((zslot σ l (zrc m a b c) w ∧ 0 ≤ w ∧ σ = τ) ∨ (zslot σ l (zrc m a b c) (-1) ∧ zup (zup (zup σ 23 (σ 3 3) l) 24 (σ 3 3) (zrc m a b c)) 3 3 (σ 3 3 + 1) = τ ∧ 676 + σ 3 3 = w)) ∧ zup (if 0 < τ 3 8 ∧ τ 3 6 < 1024 then zup (zup (zup (zup τ 0 4 (-1)) 25 (τ 3 6) w) 26 (τ 3 6) (τ 22 w)) 3 6 (τ 3 6 + 1) else zup τ 0 4 (-1)) 22 w (min 999 (τ 22 w + o)) = u2 ∧ min 999 (τ 22 w + o) = (-1000001 : Int)))))))))))))
  refine ⟨_, am_X8_isLetter, ?_⟩
  intro v1 u1 hv1
  rintro ⟨rfl, (⟨rfl, cv1⟩ | ⟨rfl, cv1⟩)⟩
  · refine ⟨?_, ?_⟩
    · exact fun h => absurd h (by decide)
    · intro _
      refine ⟨_, am_X8_isRow, ?_⟩
      intro v2 u2 hv2
      rintro ⟨rfl, (⟨rfl, cv2⟩ | ⟨rfl, cv2⟩)⟩
      · refine ⟨?_, ?_⟩
        · exact fun h => absurd h (by decide)
        · intro _
          refine ⟨?_, ?_⟩
          · intro h3
            first | exact Or.inl ⟨by omega, rfl, rfl⟩ | (exfalso; omega) | exact Or.inr ⟨⟨by omega, by omega, by omega⟩, _, _, kv4, rfl, rfl⟩
          · intro h4
            refine ⟨?_, ?_⟩
            · intro h5
              refine ⟨_, am_X8_rowCode (by omega), ?_⟩
              intro v3 u3 hv3
              rintro ⟨rfl, rfl⟩
              obtain ⟨hv3a, hv3b⟩ := hv3
              refine ⟨_, am_X0_slotMadeFor (hf), ?_⟩
              intro v4 u4 hv4
              intro kv4
              obtain ⟨hv4a, hv4b⟩ := hv4
              have g1 : 0 ≤ v4 ∧ v4 < 1188 := by
                rcases kv4 with ⟨s1, s2, s3⟩ | ⟨s1, s2, s3⟩
                · exact ⟨s2, (zslot_r s1 (by omega)).2⟩
                · omega
              have g2 : u4 22 = σ 22 := by
                rcases kv4 with ⟨s1, s2, s3⟩ | ⟨s1, s2, s3⟩
                · rw [← s3]
                · rw [← s2]; rfl
              have g3 : u4 3 6 = σ 3 6 := by
                rcases kv4 with ⟨s1, s2, s3⟩ | ⟨s1, s2, s3⟩
                · rw [← s3]
                · rw [← s2]; rfl
              have g4 := hcr v4 g1.1 g1.2
              rw [← g2] at g4
              refine ⟨?_, ?_⟩
              · intro h6
                refine ⟨_, am_X0_raise (by omega) (by omega) (g4) (by (show 0 ≤ _ ; exact (Eq.mp (congrArg (fun t => (0:Int) ≤ t) g3.symm) hu))), ?_⟩
                intro v5 u5 hv5
                rintro ⟨rfl, rfl⟩
                obtain ⟨hv5a, hv5b⟩ := hv5
                first | exact Or.inl ⟨by omega, rfl, rfl⟩ | (exfalso; omega) | exact Or.inr ⟨⟨by omega, by omega, by omega⟩, _, _, kv4, rfl, rfl⟩
              · intro h7
                first | exact Or.inl ⟨by omega, rfl, rfl⟩ | (exfalso; omega) | exact Or.inr ⟨⟨by omega, by omega, by omega⟩, _, _, kv4, rfl, rfl⟩
            · intro h8
              first | exact Or.inl ⟨by omega, rfl, rfl⟩ | (exfalso; omega) | exact Or.inr ⟨⟨by omega, by omega, by omega⟩, _, _, kv4, rfl, rfl⟩
      · refine ⟨?_, ?_⟩
        · intro _
          first | exact Or.inl ⟨by omega, rfl, rfl⟩ | (exfalso; omega) | exact Or.inr ⟨⟨by omega, by omega, by omega⟩, _, _, kv4, rfl, rfl⟩
        · exact fun h => absurd h (by decide)
  · refine ⟨?_, ?_⟩
    · intro _
      first | exact Or.inl ⟨by omega, rfl, rfl⟩ | (exfalso; omega) | exact Or.inr ⟨⟨by omega, by omega, by omega⟩, _, _, kv4, rfl, rfl⟩
    · exact fun h => absurd h (by decide)
set_option maxRecDepth 100000 in
set_option maxHeartbeats 4000000 in
theorem am_X8_pair {σ : zS} {a : Int} {b : Int} {o : Int} (hcr : ∀ j : Int, 0 ≤ j → j < 1188 → 0 ≤ σ 22 j ∧ σ 22 j ≤ 999) (hu : 0 ≤ σ 3 6) : zAM 61 [.inr (.inr (0, 0)), .inl a, .inl b, .inl o] σ (fun (v : Int) (u : zS) => ((¬ (0 ≤ a ∧ a < 26) ∨ ¬ (0 ≤ b ∧ b < 26) ∨ ¬ (1 ≤ o ∧ o ≤ 99)) ∧ σ = u ∧ -1000001 = v) ∨ (((0 ≤ a ∧ a < 26) ∧ (0 ≤ b ∧ b < 26) ∧ 1 ≤ o ∧ o ≤ 99) ∧ zup (if 0 < σ 3 8 ∧ σ 3 6 < 1024 then zup (zup (zup (zup σ 0 4 (-1)) 25 (σ 3 6) (a * 26 + b)) 26 (σ 3 6) (σ 22 (a * 26 + b))) 3 6 (σ 3 6 + 1) else zup σ 0 4 (-1)) 22 (a * 26 + b) (min 999 (σ 22 (a * 26 + b) + o)) = u ∧ min 999 (σ 22 (a * 26 + b) + o) = v)) := by
  refine zam (by decide) (Nat.le_of_ble_eq_true rfl) ?_
  refine zwalk zmk_61 [] 3 ?_
  show (∃ Rc : Int → zS → Prop, zAM 80 [.inl a] σ Rc ∧ ∀ (v1 : Int) (u1 : zS), zI v1 → Rc v1 u1 → ((v1 = 0 → (((¬ (0 ≤ a ∧ a < 26) ∨ ¬ (0 ≤ b ∧ b < 26) ∨ ¬ (1 ≤ o ∧ o ≤ 99)) ∧ σ = u1 ∧ -1000001 = (-1000001 : Int)) ∨ (((0 ≤ a ∧ a < 26) ∧ (0 ≤ b ∧ b < 26) ∧ 1 ≤ o ∧ o ≤ 99) ∧ zup (if 0 < σ 3 8 ∧ σ 3 6 < 1024 then zup (zup (zup (zup σ 0 4 (-1)) 25 (σ 3 6) (a * 26 + b)) 26 (σ 3 6) (σ 22 (a * 26 + b))) 3 6 (σ 3 6 + 1) else zup σ 0 4 (-1)) 22 (a * 26 + b) (min 999 (σ 22 (a * 26 + b) + o)) = u1 ∧ min 999 (σ 22 (a * 26 + b) + o) = (-1000001 : Int)))) ∧ (¬ v1 = 0 → (∃ Rc : Int → zS → Prop, zAM 80 [.inl b] u1 Rc ∧ ∀ (v2 : Int) (u2 : zS), zI v2 → Rc v2 u2 → ((v2 = 0 → (((¬ (0 ≤ a ∧ a < 26) ∨ ¬ (0 ≤ b ∧ b < 26) ∨ ¬ (1 ≤ o ∧ o ≤ 99)) ∧ σ = u2 ∧ -1000001 = (-1000001 : Int)) ∨ (((0 ≤ a ∧ a < 26) ∧ (0 ≤ b ∧ b < 26) ∧ 1 ≤ o ∧ o ≤ 99) ∧ zup (if 0 < σ 3 8 ∧ σ 3 6 < 1024 then zup (zup (zup (zup σ 0 4 (-1)) 25 (σ 3 6) (a * 26 + b)) 26 (σ 3 6) (σ 22 (a * 26 + b))) 3 6 (σ 3 6 + 1) else zup σ 0 4 (-1)) 22 (a * 26 + b) (min 999 (σ 22 (a * 26 + b) + o)) = u2 ∧ min 999 (σ 22 (a * 26 + b) + o) = (-1000001 : Int)))) ∧ (¬ v2 = 0 → ((o < (1 : Int) → (((¬ (0 ≤ a ∧ a < 26) ∨ ¬ (0 ≤ b ∧ b < 26) ∨ ¬ (1 ≤ o ∧ o ≤ 99)) ∧ σ = u2 ∧ -1000001 = (-1000001 : Int)) ∨ (((0 ≤ a ∧ a < 26) ∧ (0 ≤ b ∧ b < 26) ∧ 1 ≤ o ∧ o ≤ 99) ∧ zup (if 0 < σ 3 8 ∧ σ 3 6 < 1024 then zup (zup (zup (zup σ 0 4 (-1)) 25 (σ 3 6) (a * 26 + b)) 26 (σ 3 6) (σ 22 (a * 26 + b))) 3 6 (σ 3 6 + 1) else zup σ 0 4 (-1)) 22 (a * 26 + b) (min 999 (σ 22 (a * 26 + b) + o)) = u2 ∧ min 999 (σ 22 (a * 26 + b) + o) = (-1000001 : Int)))) ∧ ((1 : Int) ≤ o → ((o ≤ (99 : Int) → (∃ Rc : Int → zS → Prop, zAM 85 [.inl a, .inl b] (zup u2 0 (4 : Int) (-1 : Int)) Rc ∧ ∀ (v3 : Int) (u3 : zS), zI v3 → Rc v3 u3 → (∃ Rc : Int → zS → Prop, zAM 2 [.inr (.inr (3, 0)), .inl v3, .inl o] u3 Rc ∧ ∀ (v4 : Int) (u4 : zS), zI v4 → Rc v4 u4 → (((¬ (0 ≤ a ∧ a < 26) ∨ ¬ (0 ≤ b ∧ b < 26) ∨ ¬ (1 ≤ o ∧ o ≤ 99)) ∧ σ = u4 ∧ -1000001 = v4) ∨ (((0 ≤ a ∧ a < 26) ∧ (0 ≤ b ∧ b < 26) ∧ 1 ≤ o ∧ o ≤ 99) ∧ zup (if 0 < σ 3 8 ∧ σ 3 6 < 1024 then zup (zup (zup (zup σ 0 4 (-1)) 25 (σ 3 6) (a * 26 + b)) 26 (σ 3 6) (σ 22 (a * 26 + b))) 3 6 (σ 3 6 + 1) else zup σ 0 4 (-1)) 22 (a * 26 + b) (min 999 (σ 22 (a * 26 + b) + o)) = u4 ∧ min 999 (σ 22 (a * 26 + b) + o) = v4))))) ∧ ((99 : Int) < o → (((¬ (0 ≤ a ∧ a < 26) ∨ ¬ (0 ≤ b ∧ b < 26) ∨ ¬ (1 ≤ o ∧ o ≤ 99)) ∧ σ = u2 ∧ -1000001 = (-1000001 : Int)) ∨ (((0 ≤ a ∧ a < 26) ∧ (0 ≤ b ∧ b < 26) ∧ 1 ≤ o ∧ o ≤ 99) ∧ zup (if 0 < σ 3 8 ∧ σ 3 6 < 1024 then zup (zup (zup (zup σ 0 4 (-1)) 25 (σ 3 6) (a * 26 + b)) 26 (σ 3 6) (σ 22 (a * 26 + b))) 3 6 (σ 3 6 + 1) else zup σ 0 4 (-1)) 22 (a * 26 + b) (min 999 (σ 22 (a * 26 + b) + o)) = u2 ∧ min 999 (σ 22 (a * 26 + b) + o) = (-1000001 : Int)))))))))))))
  refine ⟨_, am_X8_isLetter, ?_⟩
  intro v1 u1 hv1
  rintro ⟨rfl, (⟨rfl, cv1⟩ | ⟨rfl, cv1⟩)⟩
  · refine ⟨?_, ?_⟩
    · exact fun h => absurd h (by decide)
    · intro _
      refine ⟨_, am_X8_isLetter, ?_⟩
      intro v2 u2 hv2
      rintro ⟨rfl, (⟨rfl, cv2⟩ | ⟨rfl, cv2⟩)⟩
      · refine ⟨?_, ?_⟩
        · exact fun h => absurd h (by decide)
        · intro _
          refine ⟨?_, ?_⟩
          · intro h3
            first | exact (Or.inl ⟨by omega, rfl, rfl⟩) | exact (Or.inr ⟨by omega, rfl, rfl⟩)
          · intro h4
            refine ⟨?_, ?_⟩
            · intro h5
              refine ⟨_, am_X8_pairSlot (by omega), ?_⟩
              intro v3 u3 hv3
              rintro ⟨rfl, rfl⟩
              obtain ⟨hv3a, hv3b⟩ := hv3
              refine ⟨_, am_X0_raise (by omega) (by omega) (by (exact hcr _ (by omega) (by omega))) (by (exact hu)), ?_⟩
              intro v4 u4 hv4
              rintro ⟨rfl, rfl⟩
              obtain ⟨hv4a, hv4b⟩ := hv4
              first | exact (Or.inl ⟨by omega, rfl, rfl⟩) | exact (Or.inr ⟨by omega, rfl, rfl⟩)
            · intro h6
              first | exact (Or.inl ⟨by omega, rfl, rfl⟩) | exact (Or.inr ⟨by omega, rfl, rfl⟩)
      · refine ⟨?_, ?_⟩
        · intro _
          first | exact (Or.inl ⟨by omega, rfl, rfl⟩) | exact (Or.inr ⟨by omega, rfl, rfl⟩)
        · exact fun h => absurd h (by decide)
  · refine ⟨?_, ?_⟩
    · intro _
      first | exact (Or.inl ⟨by omega, rfl, rfl⟩) | exact (Or.inr ⟨by omega, rfl, rfl⟩)
    · exact fun h => absurd h (by decide)
