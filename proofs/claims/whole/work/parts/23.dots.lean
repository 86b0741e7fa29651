/-! which INK a dot belongs to, and which PIECE -/
def zmn (x : Int → Int) (a s : Int) : Nat → Int
  | 0 => s
  | m + 1 => min (zmn x a s m) (x (a + (m : Int)))
def zmx (x : Int → Int) (a s : Int) : Nat → Int
  | 0 => s
  | m + 1 => max (zmx x a s m) (x (a + (m : Int)))
def zne (x : Int → Int) (p a : Int) : Nat → Int
  | 0 => a
  | m + 1 => if zaw (x (a + (m : Int))) p < zaw (x (zne x p a m)) p then a + (m : Int) else zne x p a m
def zIn (x f : Int → Int) (p i : Int) : Bool := decide (zmn x (f i) 5000 (f (i + 1) - f i).toNat - 5 ≤ p ∧ p ≤ zmx x (f i) (-1) (f (i + 1) - f i).toNat + 5)
def zfi (P : Int → Bool) : Nat → Int
  | 0 => -1
  | n + 1 => if 0 ≤ zfi P n then zfi P n else bif P n then (n : Int) else -1
theorem zfi_none {P : Int → Bool} : ∀ {n : Nat}, (∀ j : Int, 0 ≤ j → j < n → P j = false) → zfi P n = -1
  | 0, _ => rfl
  | n + 1, h => by
    have e := zfi_none (P := P) (n := n) (fun j a b => h j a (by omega))
    simp only [zfi, e, h n (by omega) (by omega)]
    rfl
theorem zfi_some {P : Int → Bool} {v : Int} (h0 : 0 ≤ v) (hP : P v = true) (hj : ∀ j : Int, 0 ≤ j → j < v → P j = false) : ∀ {n : Nat}, v < n → zfi P n = v
  | 0, h => absurd h (by omega)
  | n + 1, h => by
    by_cases e : v < n
    · have := zfi_some h0 hP hj (n := n) e
      simp only [zfi, this, if_pos h0]
    · have hv : v = n := by omega
      have e9 := zfi_none (P := P) (n := n) (fun j a b => hj j a (by omega))
      subst hv
      simp only [zfi, e9, hP]
      rfl
theorem zfi_r {P : Int → Bool} : ∀ n : Nat, zfi P n = -1 ∨ 0 ≤ zfi P n ∧ zfi P n < n ∧ P (zfi P n) = true
  | 0 => Or.inl rfl
  | n + 1 => by
    rcases zfi_r (P := P) n with e | ⟨a, b, c⟩
    · simp only [zfi, e]
      cases h : P n with
      | false => exact Or.inl rfl
      | true => exact Or.inr ⟨by show (0 : Int) ≤ n; omega, by show (n : Int) < _; omega, h⟩
    · simp only [zfi, if_pos a]
      exact Or.inr ⟨a, by omega, c⟩
theorem zfi_congr {P Q : Int → Bool} : ∀ {n : Nat}, (∀ j : Int, 0 ≤ j → j < n → P j = Q j) → zfi P n = zfi Q n
  | 0, _ => rfl
  | n + 1, h => by
    have e := zfi_congr (P := P) (Q := Q) (n := n) (fun j a b => h j a (by omega))
    simp only [zfi, e, h n (by omega) (by omega)]
theorem zmn_big {x : Int → Int} {a s : Int} (hs : x a ≤ s) : ∀ m : Nat, zmn x a s (m + 1) = zmn x a (x a) (m + 1)
  | 0 => by simp only [zmn, show a + ((0 : Nat) : Int) = a by omega]; omega
  | m + 1 => by
    show min (zmn x a s (m + 1)) _ = min (zmn x a (x a) (m + 1)) _
    rw [zmn_big hs m]
theorem zmx_big {x : Int → Int} {a s : Int} (hs : s ≤ x a) : ∀ m : Nat, zmx x a s (m + 1) = zmx x a (x a) (m + 1)
  | 0 => by simp only [zmx, show a + ((0 : Nat) : Int) = a by omega]; omega
  | m + 1 => by
    show max (zmx x a s (m + 1)) _ = max (zmx x a (x a) (m + 1)) _
    rw [zmx_big hs m]
theorem zmn_r {x : Int → Int} {a : Int} : ∀ m : Nat, (∀ j : Int, a ≤ j → j < a + m → 0 ≤ x j ∧ x j ≤ 2000) → ∀ s, 0 ≤ s → s ≤ 5000 → 0 ≤ zmn x a s m ∧ zmn x a s m ≤ 5000
  | 0, _, s, h0, h1 => ⟨h0, h1⟩
  | m + 1, h, s, h0, h1 => by
    have := zmn_r (x := x) (a := a) m (fun j p q => h j p (by omega)) s h0 h1
    have := h (a + m) (by omega) (by omega)
    simp only [zmn]; omega
theorem zmx_r {x : Int → Int} {a : Int} : ∀ m : Nat, (∀ j : Int, a ≤ j → j < a + m → 0 ≤ x j ∧ x j ≤ 2000) → ∀ s, -1 ≤ s → s ≤ 2000 → -1 ≤ zmx x a s m ∧ zmx x a s m ≤ 2000
  | 0, _, s, h0, h1 => ⟨h0, h1⟩
  | m + 1, h, s, h0, h1 => by
    have := zmx_r (x := x) (a := a) m (fun j p q => h j p (by omega)) s h0 h1
    have := h (a + m) (by omega) (by omega)
    simp only [zmx]; omega
theorem zne_r {x : Int → Int} {p a : Int} : ∀ m : Nat, a ≤ zne x p a m ∧ (zne x p a m = a ∨ zne x p a m < a + m)
  | 0 => ⟨Int.le_refl _, Or.inl rfl⟩
  | m + 1 => by
    have := zne_r (x := x) (p := p) (a := a) m
    simp only [zne]
    split <;> omega
theorem zab {a p : Int} : (if a - p < 0 then -(a - p) else a - p) = zaw a p := by
  unfold zaw
  repeat' split
  all_goals omega
/-- the pieces of the inks lie in order -/
def zLF (σ : zS) : Prop := 0 ≤ σ 2 10 ∧ σ 2 10 ≤ 40 ∧ (∀ i : Int, 0 ≤ i → i < σ 2 10 → 0 ≤ σ 20 i ∧ σ 20 i < σ 20 (i + 1) ∧ σ 20 (i + 1) ≤ 40) ∧ ∀ j : Int, 0 ≤ j → j < 40 → j < σ 20 (σ 2 10) → 0 ≤ σ 17 j ∧ σ 17 j ≤ 2000
set_option maxRecDepth 100000 in
set_option maxHeartbeats 4000000 in
theorem lp_near {σ : zS} {p i a b : Int} (hi : 0 ≤ i ∧ i < 40) (ha : σ 20 i = a) (hb : σ 20 (i + 1) = b) (h0 : 0 ≤ a ∧ a < b ∧ b ≤ 40) (hp : 0 ≤ p ∧ p ≤ 2000) (hx : ∀ j : Int, a ≤ j → j < b → 0 ≤ σ 17 j ∧ σ 17 j ≤ 2000) : ∀ (n m : Nat), a + (m : Int) + (n : Int) = b → zRuns 20 zX0 (fun (v : Int) (u : zS) => σ = u ∧ zne (σ 17) p (σ 20 i) (σ 20 (i + 1) - σ 20 i).toNat = v) 15 [some (.inr (.inr (2, 0))), some (.inl i), some (.inl p), some (.inl (zne (σ 17) p a m)), some (.inl (a + (m : Int)))] [] σ := by
  intro n
  induction n with
  | zero =>
    intro m hm
    have hz := zne_r (x := σ 17) (p := p) (a := a) m
    refine zwalk zmk_20 [(15, [true, true, true, true, true])] 3 ?_
    show (zI (i + (1 : Int)) ∧ ((0 ≤ (i + (1 : Int)) ∧ (i + (1 : Int)) < (41 : Int)) ∧ (((σ 20 (i + (1 : Int))) ≤ (a + (m : Int)) → (σ = σ ∧ zne (σ 17) p (σ 20 i) (σ 20 (i + 1) - σ 20 i).toNat = (zne (σ 17) p a m))) ∧ ((a + (m : Int)) < (σ 20 (i + (1 : Int))) → ((0 ≤ (a + (m : Int)) ∧ (a + (m : Int)) < (40 : Int)) ∧ (zI ((σ 17 (a + (m : Int))) - p) ∧ (zI (-((σ 17 (a + (m : Int))) - p)) ∧ ((0 ≤ (zne (σ 17) p a m) ∧ (zne (σ 17) p a m) < (40 : Int)) ∧ (zI ((σ 17 (zne (σ 17) p a m)) - p) ∧ (zI (-((σ 17 (zne (σ 17) p a m)) - p)) ∧ (((if ((σ 17 (zne (σ 17) p a m)) - p) < 0 then -((σ 17 (zne (σ 17) p a m)) - p) else ((σ 17 (zne (σ 17) p a m)) - p)) ≤ (if ((σ 17 (a + (m : Int))) - p) < 0 then -((σ 17 (a + (m : Int))) - p) else ((σ 17 (a + (m : Int))) - p)) → (zI ((a + (m : Int)) + (1 : Int)) ∧ zRuns 20 zX0 (fun (v : Int) (u : zS) => σ = u ∧ zne (σ 17) p (σ 20 i) (σ 20 (i + 1) - σ 20 i).toNat = v) 15 [some (.inr (.inr (2, 0))), some (.inl i), some (.inl p), some (.inl (zne (σ 17) p a m)), some (.inl ((a + (m : Int)) + (1 : Int)))] [] σ)) ∧ ((if ((σ 17 (a + (m : Int))) - p) < 0 then -((σ 17 (a + (m : Int))) - p) else ((σ 17 (a + (m : Int))) - p)) < (if ((σ 17 (zne (σ 17) p a m)) - p) < 0 then -((σ 17 (zne (σ 17) p a m)) - p) else ((σ 17 (zne (σ 17) p a m)) - p)) → (zI ((a + (m : Int)) + (1 : Int)) ∧ zRuns 20 zX0 (fun (v : Int) (u : zS) => σ = u ∧ zne (σ 17) p (σ 20 i) (σ 20 (i + 1) - σ 20 i).toNat = v) 15 [some (.inr (.inr (2, 0))), some (.inl i), some (.inl p), some (.inl (a + (m : Int))), some (.inl ((a + (m : Int)) + (1 : Int)))] [] σ)))))))))))))
    refine ⟨by (first | exact ⟨by omega, by omega⟩ | (exfalso; omega)), ?_⟩
    refine ⟨by (first | exact ⟨by omega, by omega⟩ | (exfalso; omega)), ?_⟩
    refine ⟨?_, ?_⟩
    · intro h1
      refine ⟨rfl, ?_⟩
      rw [ha, hb, show (b - a).toNat = m by omega]
    · intro h2
      refine ⟨by (first | exact ⟨by omega, by omega⟩ | (exfalso; omega)), ?_⟩
      refine ⟨by (first | exact ⟨by omega, by omega⟩ | (exfalso; omega)), ?_⟩
      refine ⟨by (first | exact ⟨by omega, by omega⟩ | (exfalso; omega)), ?_⟩
      refine ⟨by (first | exact ⟨by omega, by omega⟩ | (exfalso; omega)), ?_⟩
      refine ⟨by (first | exact ⟨by omega, by omega⟩ | (exfalso; omega)), ?_⟩
      refine ⟨by (first | exact ⟨by omega, by omega⟩ | (exfalso; omega)), ?_⟩
      refine ⟨?_, ?_⟩
      · intro h3
        refine ⟨by (first | exact ⟨by omega, by omega⟩ | (exfalso; omega)), ?_⟩
        exfalso; omega
      · intro h4
        refine ⟨by (first | exact ⟨by omega, by omega⟩ | (exfalso; omega)), ?_⟩
        exfalso; omega
  | succ n ih =>
    intro m hm
    have hz := zne_r (x := σ 17) (p := p) (a := a) m
    have hx1 := hx (a + (m : Int)) (by omega) (by omega)
    have hx2 := hx (zne (σ 17) p a m) (by omega) (by omega)
    have e1 : a + ((m + 1 : Nat) : Int) = a + (m : Int) + 1 := by omega
    have hI := ih (m + 1) (by omega)
    rw [e1] at hI
    refine zwalk zmk_20 [(15, [true, true, true, true, true])] 3 ?_
    show (zI (i + (1 : Int)) ∧ ((0 ≤ (i + (1 : Int)) ∧ (i + (1 : Int)) < (41 : Int)) ∧ (((σ 20 (i + (1 : Int))) ≤ (a + (m : Int)) → (σ = σ ∧ zne (σ 17) p (σ 20 i) (σ 20 (i + 1) - σ 20 i).toNat = (zne (σ 17) p a m))) ∧ ((a + (m : Int)) < (σ 20 (i + (1 : Int))) → ((0 ≤ (a + (m : Int)) ∧ (a + (m : Int)) < (40 : Int)) ∧ (zI ((σ 17 (a + (m : Int))) - p) ∧ (zI (-((σ 17 (a + (m : Int))) - p)) ∧ ((0 ≤ (zne (σ 17) p a m) ∧ (zne (σ 17) p a m) < (40 : Int)) ∧ (zI ((σ 17 (zne (σ 17) p a m)) - p) ∧ (zI (-((σ 17 (zne (σ 17) p a m)) - p)) ∧ (((if ((σ 17 (zne (σ 17) p a m)) - p) < 0 then -((σ 17 (zne (σ 17) p a m)) - p) else ((σ 17 (zne (σ 17) p a m)) - p)) ≤ (if ((σ 17 (a + (m : Int))) - p) < 0 then -((σ 17 (a + (m : Int))) - p) else ((σ 17 (a + (m : Int))) - p)) → (zI ((a + (m : Int)) + (1 : Int)) ∧ zRuns 20 zX0 (fun (v : Int) (u : zS) => σ = u ∧ zne (σ 17) p (σ 20 i) (σ 20 (i + 1) - σ 20 i).toNat = v) 15 [some (.inr (.inr (2, 0))), some (.inl i), some (.inl p), some (.inl (zne (σ 17) p a m)), some (.inl ((a + (m : Int)) + (1 : Int)))] [] σ)) ∧ ((if ((σ 17 (a + (m : Int))) - p) < 0 then -((σ 17 (a + (m : Int))) - p) else ((σ 17 (a + (m : Int))) - p)) < (if ((σ 17 (zne (σ 17) p a m)) - p) < 0 then -((σ 17 (zne (σ 17) p a m)) - p) else ((σ 17 (zne (σ 17) p a m)) - p)) → (zI ((a + (m : Int)) + (1 : Int)) ∧ zRuns 20 zX0 (fun (v : Int) (u : zS) => σ = u ∧ zne (σ 17) p (σ 20 i) (σ 20 (i + 1) - σ 20 i).toNat = v) 15 [some (.inr (.inr (2, 0))), some (.inl i), some (.inl p), some (.inl (a + (m : Int))), some (.inl ((a + (m : Int)) + (1 : Int)))] [] σ)))))))))))))
    rw [zab, zab]
    refine ⟨by (exact ⟨by omega, by omega⟩), ?_⟩
    refine ⟨by (exact ⟨by omega, by omega⟩), ?_⟩
    refine ⟨?_, ?_⟩
    · intro h1
      exfalso; omega
    · intro h2
      refine ⟨by (exact ⟨by omega, by omega⟩), ?_⟩
      refine ⟨by (exact ⟨by omega, by omega⟩), ?_⟩
      refine ⟨by (exact ⟨by omega, by omega⟩), ?_⟩
      refine ⟨by (exact ⟨by omega, by omega⟩), ?_⟩
      refine ⟨by (exact ⟨by omega, by omega⟩), ?_⟩
      refine ⟨by (exact ⟨by omega, by omega⟩), ?_⟩
      refine ⟨?_, ?_⟩
      · intro h3
        refine ⟨by (exact ⟨by omega, by omega⟩), ?_⟩
        have e : zne (σ 17) p a (m + 1) = zne (σ 17) p a m := by
          simp only [zne]; rw [if_neg (by omega)]
        rw [e] at hI; exact hI
      · intro h4
        refine ⟨by (exact ⟨by omega, by omega⟩), ?_⟩
        have e : zne (σ 17) p a (m + 1) = a + (m : Int) := by
          simp only [zne]; rw [if_pos (by omega)]
        rw [e] at hI; exact hI
set_option maxRecDepth 100000 in
set_option maxHeartbeats 4000000 in
theorem am_X2_nearestPiece {σ : zS} {i : Int} {p : Int} {a : Int} {b : Int} (hi : 0 ≤ i ∧ i < 40) (ha : σ 20 i = a) (hb : σ 20 (i + 1) = b) (h0 : 0 ≤ a ∧ a < b ∧ b ≤ 40) (hp : 0 ≤ p ∧ p ≤ 2000) (hx : ∀ j : Int, a ≤ j → j < b → 0 ≤ σ 17 j ∧ σ 17 j ≤ 2000) : zAM 20 [.inr (.inr (2, 0)), .inl i, .inl p] σ (fun (v : Int) (u : zS) => σ = u ∧ zne (σ 17) p (σ 20 i) (σ 20 (i + 1) - σ 20 i).toNat = v) := by
  refine zam (by decide) (Nat.le_of_ble_eq_true rfl) ?_
  refine zwalk zmk_20 [(15, [true, true, true, true, true])] 2 ?_
  show ((0 ≤ i ∧ i < (41 : Int)) ∧ ((0 ≤ i ∧ i < (41 : Int)) ∧ zRuns 20 zX0 (fun (v : Int) (u : zS) => σ = u ∧ zne (σ 17) p (σ 20 i) (σ 20 (i + 1) - σ 20 i).toNat = v) 15 [some (.inr (.inr (2, 0))), some (.inl i), some (.inl p), some (.inl (σ 20 i)), some (.inl (σ 20 i))] [] σ))
  refine ⟨by (first | omega | exact ⟨by omega, by omega⟩ | exact ⟨by omega, by omega, by omega⟩ | exact ⟨by omega, by omega, by omega, by omega, by omega⟩), ?_⟩
  refine ⟨by (first | omega | exact ⟨by omega, by omega⟩ | exact ⟨by omega, by omega, by omega⟩ | exact ⟨by omega, by omega, by omega, by omega, by omega⟩), ?_⟩
  have h9 := lp_near hi ha hb h0 hp hx (b - a).toNat 0 (by omega)
  rw [show a + ((0 : Nat) : Int) = σ 20 i by omega] at h9
  have e9 : zne (σ 17) p a 0 = σ 20 i := ha.symm
  rw [e9] at h9
  exact h9
