/-! the model's isBest, teach -/
def zoN (ix : Nat → Int) (x : Int) : Nat → Int
  | 0 => 0
  | n + 1 => zoN ix x n + (if ix n = x then 1 else 0)
def zoQ (ix : Nat → Int) (x : Int) : Nat → Int
  | 0 => 0
  | n + 1 => zoQ ix x n + (if 0 < n ∧ ix n = x then 1 else 0)
theorem zoN_r {ix : Nat → Int} {x : Int} : ∀ {n : Nat}, 0 ≤ zoN ix x n
  | 0 => Int.le_refl _
  | n + 1 => by have := zoN_r (ix := ix) (x := x) (n := n); simp only [zoN]; split <;> omega
theorem zoQ_r {ix : Nat → Int} {x : Int} : ∀ {n : Nat}, 0 ≤ zoQ ix x n
  | 0 => Int.le_refl _
  | n + 1 => by have := zoQ_r (ix := ix) (x := x) (n := n); simp only [zoQ]; split <;> omega
set_option maxRecDepth 100000 in
set_option maxHeartbeats 4000000 in
theorem am_X9_isBest {σ : zS} {i : Int} {w : Nat → Int} {m : Nat} {p : Int} {f : Int → Int → Int → Int} {l : Int} {a : Int} {k : Int} (hi : 0 ≤ i ∧ i < 40) (hw : zlet w m) (hm : m ≤ 12) (hp : 0 ≤ p ∧ p ≤ 14) (hb0 : 0 ≤ σ 45 i ∧ σ 45 i + p ≤ 40) (hs : ∀ j : Int, σ 45 i ≤ j → j < σ 45 i + p → 0 ≤ σ 42 j ∧ σ 42 j < 12) (hc47 : ∀ j : Int, 0 ≤ j → j < 49660 → 0 ≤ σ 47 j ∧ σ 47 j ≤ 999) (hfm : ∀ a k l : Int, 0 ≤ a → 1 ≤ k → k ≤ 3 → a + k ≤ p → 0 ≤ l → l < 26 → zmc σ l (σ 45 i + a) k = (if f a k l < 0 then 1000000000 else f a k l) ∧ -1 ≤ f a k l ∧ f a k l ≤ 100) (h53 : ∀ j : Int, 0 ≤ j → j < m → σ 53 j = w j.toNat) (h60 : ∀ x y : Int, 0 ≤ x → x ≤ m → 0 ≤ y → y ≤ p → σ 60 (15 * x + y) = zsp f w m p 1000000000 ((m : Int) - x).toNat y) (hl : 0 ≤ l ∧ l < m) (ha : 0 ≤ a ∧ 1 ≤ k ∧ k ≤ 3 ∧ a + k ≤ p) (hv : zsp f w m p 1000000000 ((m : Int) - l).toNat a < 1000000000) : zAM 145 [.inr (.inr (9, 0)), .inl i, .inl l, .inl a, .inl k] σ (fun (v : Int) (u : zS) => σ = u ∧ (v = 1 ∧ zrg f w m p 1000000000 l a k = zsp f w m p 1000000000 ((m : Int) - l).toNat a ∨ v = 0 ∧ ¬ zrg f w m p 1000000000 l a k = zsp f w m p 1000000000 ((m : Int) - l).toNat a)) := by
  refine zam (by decide) (Nat.le_of_ble_eq_true rfl) ?_
  refine zwalk zmk_145 [] 3 ?_
  show ((0 ≤ l ∧ l < (12 : Int)) ∧ ((0 ≤ i ∧ i < (41 : Int)) ∧ (zI ((σ 45 i) + a) ∧ (∃ Rc : Int → zS → Prop, zAM 132 [.inr (.inr (9, 0)), .inl (σ 53 l), .inl ((σ 45 i) + a), .inl k] σ Rc ∧ ∀ (v1 : Int) (u1 : zS), zI v1 → Rc v1 u1 → (zI (l + (1 : Int)) ∧ (zI ((15 : Int) * (l + (1 : Int))) ∧ (zI (((15 : Int) * (l + (1 : Int))) + a) ∧ (zI ((((15 : Int) * (l + (1 : Int))) + a) + k) ∧ ((0 ≤ ((((15 : Int) * (l + (1 : Int))) + a) + k) ∧ ((((15 : Int) * (l + (1 : Int))) + a) + k) < (195 : Int)) ∧ (((1000000000 : Int) ≤ v1 → (((0 : Int) = 0 ∨ (0 : Int) = 1) ∧ (σ = u1 ∧ ((0 : Int) = 1 ∧ zrg f w m p 1000000000 l a k = zsp f w m p 1000000000 ((m : Int) - l).toNat a ∨ (0 : Int) = 0 ∧ ¬ zrg f w m p 1000000000 l a k = zsp f w m p 1000000000 ((m : Int) - l).toNat a)))) ∧ (v1 < (1000000000 : Int) → (((1000000000 : Int) ≤ (u1 60 ((((15 : Int) * (l + (1 : Int))) + a) + k)) → (((0 : Int) = 0 ∨ (0 : Int) = 1) ∧ (σ = u1 ∧ ((0 : Int) = 1 ∧ zrg f w m p 1000000000 l a k = zsp f w m p 1000000000 ((m : Int) - l).toNat a ∨ (0 : Int) = 0 ∧ ¬ zrg f w m p 1000000000 l a k = zsp f w m p 1000000000 ((m : Int) - l).toNat a)))) ∧ ((u1 60 ((((15 : Int) * (l + (1 : Int))) + a) + k)) < (1000000000 : Int) → (zI (v1 + (u1 60 ((((15 : Int) * (l + (1 : Int))) + a) + k))) ∧ (zI ((15 : Int) * l) ∧ (zI (((15 : Int) * l) + a) ∧ ((0 ≤ (((15 : Int) * l) + a) ∧ (((15 : Int) * l) + a) < (195 : Int)) ∧ ((¬ (v1 + (u1 60 ((((15 : Int) * (l + (1 : Int))) + a) + k))) = (u1 60 (((15 : Int) * l) + a)) → (((0 : Int) = 0 ∨ (0 : Int) = 1) ∧ (σ = u1 ∧ ((0 : Int) = 1 ∧ zrg f w m p 1000000000 l a k = zsp f w m p 1000000000 ((m : Int) - l).toNat a ∨ (0 : Int) = 0 ∧ ¬ zrg f w m p 1000000000 l a k = zsp f w m p 1000000000 ((m : Int) - l).toNat a)))) ∧ ((v1 + (u1 60 ((((15 : Int) * (l + (1 : Int))) + a) + k))) = (u1 60 (((15 : Int) * l) + a)) → (((1 : Int) = 0 ∨ (1 : Int) = 1) ∧ (σ = u1 ∧ ((1 : Int) = 1 ∧ zrg f w m p 1000000000 l a k = zsp f w m p 1000000000 ((m : Int) - l).toNat a ∨ (1 : Int) = 0 ∧ ¬ zrg f w m p 1000000000 l a k = zsp f w m p 1000000000 ((m : Int) - l).toNat a))))))))))))))))))))))
  have hwl := hw l.toNat (by omega)
  have x1 := hfm a k (w l.toNat) ha.1 ha.2.1 ha.2.2.1 ha.2.2.2 hwl.1 hwl.2
  have x2 := h60 (l + 1) (a + k) (by omega) (by omega) (by omega) ha.2.2.2
  rw [show 15 * (l + 1) + (a + k) = 15 * (l + 1) + a + k by omega] at x2
  have x4 := h60 l a (by omega) (by omega) ha.1 (by omega)
  have x5 := h53 l hl.1 hl.2
  have x3 := zsp_b (f := f) (w := w) (m := m) (p := p) (N := 1000000000) (M := 1000000000) (fun a k l a0 k0 k1 ak l0 l1 => (hfm a k l a0 k0 k1 ak l0 l1).2.2) hw (by decide) (by decide) hm ((m : Int) - (l + 1)).toNat (a + k) (by omega) (by omega)
  have eg : zrg f w m p 1000000000 l a k = if f a k (w l.toNat) < 0 ∨ zsp f w m p 1000000000 ((m : Int) - (l + 1)).toNat (a + k) = 1000000000 then 1000000000 else f a k (w l.toNat) + zsp f w m p 1000000000 ((m : Int) - (l + 1)).toNat (a + k) := rfl
  refine ⟨by (omega), ?_⟩
  refine ⟨by (omega), ?_⟩
  refine ⟨by (exact ⟨by omega, by omega⟩), ?_⟩
  rw [x5]
  refine ⟨_, am_X9_cost (by omega) (by omega) (hwl) (fun j a0 a1 => hs j (by omega) (by omega)) (hc47), ?_⟩
  intro v1 u1 hv1
  rintro ⟨rfl, ev1⟩
  obtain ⟨hv1a, hv1b⟩ := hv1
  rw [x1.1] at ev1
  refine ⟨by (exact ⟨by omega, by omega⟩), ?_⟩
  refine ⟨by (exact ⟨by omega, by omega⟩), ?_⟩
  refine ⟨by (exact ⟨by omega, by omega⟩), ?_⟩
  refine ⟨by (exact ⟨by omega, by omega⟩), ?_⟩
  refine ⟨by (omega), ?_⟩
  refine ⟨?_, ?_⟩
  · intro h1
    refine ⟨by (omega), ?_⟩
    first
      | (refine ⟨rfl, Or.inl ⟨rfl, ?_⟩⟩
         rw [eg, if_neg (by split at ev1 <;> omega)]
         split at ev1 <;> omega)
      | (refine ⟨rfl, Or.inr ⟨rfl, ?_⟩⟩
         rw [eg]
         split at ev1 <;> split <;> omega)
  · intro h2
    refine ⟨?_, ?_⟩
    · intro h3
      refine ⟨by (omega), ?_⟩
      first
        | (refine ⟨rfl, Or.inl ⟨rfl, ?_⟩⟩
           rw [eg, if_neg (by split at ev1 <;> omega)]
           split at ev1 <;> omega)
        | (refine ⟨rfl, Or.inr ⟨rfl, ?_⟩⟩
           rw [eg]
           split at ev1 <;> split <;> omega)
    · intro h4
      refine ⟨by (exact ⟨by omega, by omega⟩), ?_⟩
      refine ⟨by (exact ⟨by omega, by omega⟩), ?_⟩
      refine ⟨by (exact ⟨by omega, by omega⟩), ?_⟩
      refine ⟨by (omega), ?_⟩
      refine ⟨?_, ?_⟩
      · intro h5
        refine ⟨by (omega), ?_⟩
        first
          | (refine ⟨rfl, Or.inl ⟨rfl, ?_⟩⟩
             rw [eg, if_neg (by split at ev1 <;> omega)]
             split at ev1 <;> omega)
          | (refine ⟨rfl, Or.inr ⟨rfl, ?_⟩⟩
             rw [eg]
             split at ev1 <;> split <;> omega)
      · intro h6
        refine ⟨by (omega), ?_⟩
        first
          | (refine ⟨rfl, Or.inl ⟨rfl, ?_⟩⟩
             rw [eg, if_neg (by split at ev1 <;> omega)]
             split at ev1 <;> omega)
          | (refine ⟨rfl, Or.inr ⟨rfl, ?_⟩⟩
             rw [eg]
             split at ev1 <;> split <;> omega)
