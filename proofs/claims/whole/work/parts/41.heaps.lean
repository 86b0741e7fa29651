/-! the class's heaps of five -/
def zTH (σ : zS) (h : Int) (S : Int → Int → Prop) : Prop := zTop S (σ 30 h) (fun i => σ 31 (h * 5 + i)) (fun i => σ 32 (h * 5 + i))
/-- nothing but heap h changes -/
def zHF (σ u : zS) (h : Int) : Prop := zfr [30, 31, 32] σ u ∧ (∀ j : Int, ¬ j = h → u 30 j = σ 30 j) ∧ ∀ j : Int, (j < h * 5 ∨ h * 5 + 5 ≤ j) → u 31 j = σ 31 j ∧ u 32 j = σ 32 j
theorem zHF.rf {σ : zS} {h : Int} : zHF σ σ h := ⟨zfr.rf, fun _ _ => rfl, fun _ _ => ⟨rfl, rfl⟩⟩
theorem zHF.trans {σ s u : zS} {h : Int} (a : zHF σ s h) (b : zHF s u h) : zHF σ u h := by
  obtain ⟨a1, a2, a3⟩ := a
  obtain ⟨b1, b2, b3⟩ := b
  refine ⟨fun k hk => by rw [b1 k hk, a1 k hk], fun j hj => by rw [b2 j hj, a2 j hj], fun j hj => ?_⟩
  rw [(b3 j hj).1, (b3 j hj).2]
  exact a3 j hj
theorem zHF.keep {σ u : zS} {h h' : Int} {S : Int → Int → Prop} (a : zHF σ u h) (hne : ¬ h' = h) (t : zTH σ h' S) : zTH u h' S := by
  obtain ⟨a1, a2, a3⟩ := a
  unfold zTH at *
  rw [a2 h' hne]
  have hn := t.1
  refine t.arr (fun i i0 i1 => a3 _ ?_)
  omega
theorem zTH.congr {σ : zS} {h : Int} {S T : Int → Int → Prop} (t : zTH σ h S) (e : ∀ x d, S x d ↔ T x d) : zTH σ h T := zTop.congr t e
/-- what came in at p of heap's places from f on; those from p on to q moved by one -/
def zINS (τ u : zS) (f q c x : Int) : Prop := zfr [31, 32] τ u ∧ ∃ p : Int, f ≤ p ∧ p ≤ q ∧ (∀ j : Int, (j < p ∨ q < j) → u 31 j = τ 31 j ∧ u 32 j = τ 32 j) ∧ (u 31 p = c ∧ u 32 p = x) ∧ (∀ j : Int, p < j → j ≤ q → u 31 j = τ 31 (j - 1) ∧ u 32 j = τ 32 (j - 1)) ∧ (p = f ∨ ¬ zbe c x (τ 31 (p - 1)) (τ 32 (p - 1))) ∧ ∀ j : Int, p ≤ j → j < q → zbe c x (τ 31 j) (τ 32 j)
theorem zINS_top {σ τ u : zS} {h q c x : Int} {S : Int → Int → Prop} (hT : zTH σ h S) (h31 : τ 31 = σ 31) (h32 : τ 32 = σ 32) (hi : zINS τ u (h * 5) q c x) (hq : (q < h * 5 + σ 30 h ∧ σ 32 q = x ∧ c < σ 31 q ∧ τ 30 h = σ 30 h) ∨ ((∀ i : Int, 0 ≤ i → i < σ 30 h → ¬ σ 32 (h * 5 + i) = x) ∧ (q = h * 5 + σ 30 h ∧ σ 30 h < 5 ∧ τ 30 h = σ 30 h + 1 ∨ q = h * 5 + 4 ∧ σ 30 h = 5 ∧ τ 30 h = 5 ∧ zbe c x (σ 31 (h * 5 + 4)) (σ 32 (h * 5 + 4))))) : zTH u h (fun y e => S y e ∨ y = x ∧ e = c) := by
  obtain ⟨f1, p, p0, p1, q1, q2, q3, q4, q5⟩ := hi
  rw [h31, h32] at q1 q3 q4 q5
  have e30 : u 30 h = τ 30 h := by rw [f1 30 (by decide)]
  unfold zTH
  rw [e30]
  have hn := hT.1
  refine zTop.put (p := p - h * 5) (q := q - h * 5) hT ⟨by omega, by omega⟩ ?_ ?_ ?_ ?_
  · rcases hq with ⟨a1, a2, a3, a4⟩ | ⟨a1, a2 | a2⟩
    · refine Or.inl ⟨by omega, ?_, a4⟩
      show σ 32 (h * 5 + (q - h * 5)) = x
      rw [show h * 5 + (q - h * 5) = q by omega]; exact a2
    · exact Or.inr ⟨a1, Or.inl ⟨by omega, a2.2⟩⟩
    · exact Or.inr ⟨a1, Or.inr ⟨by omega, a2.2.1, a2.2.2.1⟩⟩
  · intro i i0 i1
    rcases q4 with q4 | q4
    · omega
    · show ¬ zbe c x (σ 31 (h * 5 + i)) (σ 32 (h * 5 + i))
      by_cases e : h * 5 + i = p - 1
      · rw [e]; exact q4
      · have s := (hT.2.1 i (p - 1 - h * 5) i0 (by omega) (by omega)).1
        simp only [show h * 5 + (p - 1 - h * 5) = p - 1 by omega] at s
        omega
  · intro i i0 i1 i2
    show zbe c x (σ 31 (h * 5 + i)) (σ 32 (h * 5 + i))
    by_cases e : h * 5 + i < q
    · exact q5 _ (by omega) e
    · have e2 : h * 5 + i = q := by omega
      rcases hq with ⟨a1, a2, a3, a4⟩ | ⟨a1, a2 | a2⟩
      · rw [e2]; exact Or.inl a3
      · omega
      · rw [e2, a2.1]; exact a2.2.2.2
  · intro i i0 i1
    show _ ∧ u 31 (h * 5 + i) = σ 31 (h * 5 + i) ∧ u 32 (h * 5 + i) = σ 32 (h * 5 + i) ∨ _ ∧ u 31 (h * 5 + i) = c ∧ u 32 (h * 5 + i) = x ∨ _ ∧ _ ∧ u 31 (h * 5 + i) = σ 31 (h * 5 + (i - 1)) ∧ u 32 (h * 5 + i) = σ 32 (h * 5 + (i - 1)) ∨ _ ∧ u 31 (h * 5 + i) = σ 31 (h * 5 + i) ∧ u 32 (h * 5 + i) = σ 32 (h * 5 + i)
    by_cases g1 : h * 5 + i < p
    · exact Or.inl ⟨by omega, q1 _ (Or.inl g1)⟩
    · by_cases g2 : h * 5 + i = p
      · exact Or.inr (Or.inl ⟨by omega, by rw [g2]; exact q2⟩)
      · by_cases g3 : h * 5 + i ≤ q
        · refine Or.inr (Or.inr (Or.inl ⟨by omega, by omega, ?_⟩))
          have := q3 (h * 5 + i) (by omega) g3
          rw [show h * 5 + (i - 1) = h * 5 + i - 1 by omega]
          exact this
        · exact Or.inr (Or.inr (Or.inr ⟨by omega, q1 _ (Or.inr (by omega))⟩))
set_option maxRecDepth 100000 in
set_option maxHeartbeats 4000000 in
theorem lp_placeFor {h : Int} {c : Int} {x : Int} {S : Int → Int → Prop} {σ : zS} (hh : 0 ≤ h ∧ h < 313) (hT : zTH σ h S) (hfull : σ 30 h = 5 → zbe c x (σ 31 (h * 5 + 4)) (σ 32 (h * 5 + 4))) : ∀ (n : Nat) (k : Int), h * 5 + σ 30 h - k < (n : Int) → (h * 5 ≤ k ∧ k ≤ h * 5 + σ 30 h) → (∀ j : Int, h * 5 ≤ j → j < k → ¬ σ 32 j = x) → zRuns 33 zX0 (fun (v : Int) (u : zS) => (σ = u ∧ v = -1 ∧ zTH σ h (fun y e => S y e ∨ y = x ∧ e = c)) ∨ (σ = u ∧ h * 5 ≤ v ∧ v < h * 5 + σ 30 h ∧ σ 32 v = x ∧ c < σ 31 v) ∨ ((∀ i : Int, 0 ≤ i → i < σ 30 h → ¬ σ 32 (h * 5 + i) = x) ∧ σ 30 h = 5 ∧ zbe c x (σ 31 (h * 5 + 4)) (σ 32 (h * 5 + 4)) ∧ σ = u ∧ v = h * 5 + 4) ∨ ((∀ i : Int, 0 ≤ i → i < σ 30 h → ¬ σ 32 (h * 5 + i) = x) ∧ σ 30 h < 5 ∧ zup σ 30 h (σ 30 h + 1) = u ∧ v = h * 5 + σ 30 h)) 45 [some (.inr (.inr (6, 0))), some (.inl h), some (.inl c), some (.inr (.inl x)), none, none, some (.inl (h * 5 + σ 30 h)), some (.inl k)] [] σ := by
  intro n
  induction n with
  | zero =>
    intro k hn k0 hj
    exfalso
    omega
  | succ n ih =>
    intro k hn k0 hj
    refine zwalk zmk_33 [(45, [true, true, true, true, false, false, true, true])] 4 ?_
    show (((h * 5 + σ 30 h) ≤ k → ((0 ≤ h ∧ h < (313 : Int)) ∧ ((¬ (σ 30 h) = (5 : Int) → ((0 ≤ h ∧ h < (313 : Int)) ∧ (zI ((σ 30 h) + (1 : Int)) ∧ ((0 ≤ h ∧ h < (313 : Int)) ∧ ((σ = (zup σ 30 h ((σ 30 h) + (1 : Int))) ∧ (h * 5 + σ 30 h) = -1 ∧ zTH σ h (fun y e => S y e ∨ y = x ∧ e = c)) ∨ (σ = (zup σ 30 h ((σ 30 h) + (1 : Int))) ∧ h * 5 ≤ (h * 5 + σ 30 h) ∧ (h * 5 + σ 30 h) < h * 5 + σ 30 h ∧ σ 32 (h * 5 + σ 30 h) = x ∧ c < σ 31 (h * 5 + σ 30 h)) ∨ ((∀ i : Int, 0 ≤ i → i < σ 30 h → ¬ σ 32 (h * 5 + i) = x) ∧ σ 30 h = 5 ∧ zbe c x (σ 31 (h * 5 + 4)) (σ 32 (h * 5 + 4)) ∧ σ = (zup σ 30 h ((σ 30 h) + (1 : Int))) ∧ (h * 5 + σ 30 h) = h * 5 + 4) ∨ ((∀ i : Int, 0 ≤ i → i < σ 30 h → ¬ σ 32 (h * 5 + i) = x) ∧ σ 30 h < 5 ∧ zup σ 30 h (σ 30 h + 1) = (zup σ 30 h ((σ 30 h) + (1 : Int))) ∧ (h * 5 + σ 30 h) = h * 5 + σ 30 h)))))) ∧ ((σ 30 h) = (5 : Int) → (zI ((h * 5 + σ 30 h) - (1 : Int)) ∧ ((σ = σ ∧ ((h * 5 + σ 30 h) - (1 : Int)) = -1 ∧ zTH σ h (fun y e => S y e ∨ y = x ∧ e = c)) ∨ (σ = σ ∧ h * 5 ≤ ((h * 5 + σ 30 h) - (1 : Int)) ∧ ((h * 5 + σ 30 h) - (1 : Int)) < h * 5 + σ 30 h ∧ σ 32 ((h * 5 + σ 30 h) - (1 : Int)) = x ∧ c < σ 31 ((h * 5 + σ 30 h) - (1 : Int))) ∨ ((∀ i : Int, 0 ≤ i → i < σ 30 h → ¬ σ 32 (h * 5 + i) = x) ∧ σ 30 h = 5 ∧ zbe c x (σ 31 (h * 5 + 4)) (σ 32 (h * 5 + 4)) ∧ σ = σ ∧ ((h * 5 + σ 30 h) - (1 : Int)) = h * 5 + 4) ∨ ((∀ i : Int, 0 ≤ i → i < σ 30 h → ¬ σ 32 (h * 5 + i) = x) ∧ σ 30 h < 5 ∧ zup σ 30 h (σ 30 h + 1) = σ ∧ ((h * 5 + σ 30 h) - (1 : Int)) = h * 5 + σ 30 h))))))) ∧ (k < (h * 5 + σ 30 h) → ((0 ≤ k ∧ k < (1565 : Int)) ∧ ((¬ (zcmp (σ 32 k) x) = 0 → (zI (k + (1 : Int)) ∧ zRuns 33 zX0 (fun (v : Int) (u : zS) => (σ = u ∧ v = -1 ∧ zTH σ h (fun y e => S y e ∨ y = x ∧ e = c)) ∨ (σ = u ∧ h * 5 ≤ v ∧ v < h * 5 + σ 30 h ∧ σ 32 v = x ∧ c < σ 31 v) ∨ ((∀ i : Int, 0 ≤ i → i < σ 30 h → ¬ σ 32 (h * 5 + i) = x) ∧ σ 30 h = 5 ∧ zbe c x (σ 31 (h * 5 + 4)) (σ 32 (h * 5 + 4)) ∧ σ = u ∧ v = h * 5 + 4) ∨ ((∀ i : Int, 0 ≤ i → i < σ 30 h → ¬ σ 32 (h * 5 + i) = x) ∧ σ 30 h < 5 ∧ zup σ 30 h (σ 30 h + 1) = u ∧ v = h * 5 + σ 30 h)) 45 [some (.inr (.inr (6, 0))), some (.inl h), some (.inl c), some (.inr (.inl x)), none, none, some (.inl (h * 5 + σ 30 h)), some (.inl (k + (1 : Int)))] [] σ)) ∧ ((zcmp (σ 32 k) x) = 0 → ((0 ≤ k ∧ k < (1565 : Int)) ∧ (((σ 31 k) ≤ c → ((σ = σ ∧ (-1 : Int) = -1 ∧ zTH σ h (fun y e => S y e ∨ y = x ∧ e = c)) ∨ (σ = σ ∧ h * 5 ≤ (-1 : Int) ∧ (-1 : Int) < h * 5 + σ 30 h ∧ σ 32 (-1 : Int) = x ∧ c < σ 31 (-1 : Int)) ∨ ((∀ i : Int, 0 ≤ i → i < σ 30 h → ¬ σ 32 (h * 5 + i) = x) ∧ σ 30 h = 5 ∧ zbe c x (σ 31 (h * 5 + 4)) (σ 32 (h * 5 + 4)) ∧ σ = σ ∧ (-1 : Int) = h * 5 + 4) ∨ ((∀ i : Int, 0 ≤ i → i < σ 30 h → ¬ σ 32 (h * 5 + i) = x) ∧ σ 30 h < 5 ∧ zup σ 30 h (σ 30 h + 1) = σ ∧ (-1 : Int) = h * 5 + σ 30 h))) ∧ (c < (σ 31 k) → ((σ = σ ∧ k = -1 ∧ zTH σ h (fun y e => S y e ∨ y = x ∧ e = c)) ∨ (σ = σ ∧ h * 5 ≤ k ∧ k < h * 5 + σ 30 h ∧ σ 32 k = x ∧ c < σ 31 k) ∨ ((∀ i : Int, 0 ≤ i → i < σ 30 h → ¬ σ 32 (h * 5 + i) = x) ∧ σ 30 h = 5 ∧ zbe c x (σ 31 (h * 5 + 4)) (σ 32 (h * 5 + 4)) ∧ σ = σ ∧ k = h * 5 + 4) ∨ ((∀ i : Int, 0 ≤ i → i < σ 30 h → ¬ σ 32 (h * 5 + i) = x) ∧ σ 30 h < 5 ∧ zup σ 30 h (σ 30 h + 1) = σ ∧ k = h * 5 + σ 30 h))))))))))
    have hn := hT.1
    refine ⟨?_, ?_⟩
    · intro h1
      refine ⟨by (first | exact ⟨by omega, by omega⟩ | (exfalso; omega)), ?_⟩
      refine ⟨?_, ?_⟩
      · intro h2
        refine ⟨by (first | exact ⟨by omega, by omega⟩ | (exfalso; omega)), ?_⟩
        refine ⟨by (first | exact ⟨by omega, by omega⟩ | (exfalso; omega)), ?_⟩
        refine ⟨by (first | exact ⟨by omega, by omega⟩ | (exfalso; omega)), ?_⟩
        refine Or.inr (Or.inr (Or.inr ⟨(fun i i0 i1 => by have := hj (h * 5 + i) (by omega) (by omega); exact this), by omega, rfl, rfl⟩))
      · intro h3
        refine ⟨by (first | exact ⟨by omega, by omega⟩ | (exfalso; omega)), ?_⟩
        refine Or.inr (Or.inr (Or.inl ⟨(fun i i0 i1 => by have := hj (h * 5 + i) (by omega) (by omega); exact this), by omega, hfull (by omega), rfl, by omega⟩))
    · intro h4
      refine ⟨by (first | exact ⟨by omega, by omega⟩ | (exfalso; omega)), ?_⟩
      refine ⟨?_, ?_⟩
      · intro h5
        simp only [zc_lt, zc_ge, zc_gt, zc_le, zc_eq] at h5
        refine ⟨by (first | exact ⟨by omega, by omega⟩ | (exfalso; omega)), ?_⟩
        refine ih _ (by omega) (by omega) (fun j j0 j1 => ?_)
        by_cases e : j = k
        · rw [e]; assumption
        · exact hj j j0 (by omega)
      · intro h6
        simp only [zc_lt, zc_ge, zc_gt, zc_le, zc_eq] at h6
        refine ⟨by (first | exact ⟨by omega, by omega⟩ | (exfalso; omega)), ?_⟩
        refine ⟨?_, ?_⟩
        · intro h7
          refine Or.inl ⟨rfl, rfl, ?_⟩
          refine zTop.had (k := k - h * 5) hT (by omega) (by omega) ?_ ?_
          · show σ 32 (h * 5 + (k - h * 5)) = x
            rw [show h * 5 + (k - h * 5) = k by omega]; assumption
          · show σ 31 (h * 5 + (k - h * 5)) ≤ c
            rw [show h * 5 + (k - h * 5) = k by omega]; omega
        · intro h8
          exact Or.inr (Or.inl ⟨rfl, by omega, by omega, by assumption, by assumption⟩)
set_option maxRecDepth 100000 in
set_option maxHeartbeats 4000000 in
theorem am_X4_placeFor {σ : zS} {h : Int} {c : Int} {x : Int} {S : Int → Int → Prop} (hh : 0 ≤ h ∧ h < 313) (hT : zTH σ h S) : zAM 33 [.inr (.inr (6, 0)), .inl h, .inl c, .inr (.inl x)] σ (fun (v : Int) (u : zS) => (σ = u ∧ v = -1 ∧ zTH σ h (fun y e => S y e ∨ y = x ∧ e = c)) ∨ (σ = u ∧ h * 5 ≤ v ∧ v < h * 5 + σ 30 h ∧ σ 32 v = x ∧ c < σ 31 v) ∨ ((∀ i : Int, 0 ≤ i → i < σ 30 h → ¬ σ 32 (h * 5 + i) = x) ∧ σ 30 h = 5 ∧ zbe c x (σ 31 (h * 5 + 4)) (σ 32 (h * 5 + 4)) ∧ σ = u ∧ v = h * 5 + 4) ∨ ((∀ i : Int, 0 ≤ i → i < σ 30 h → ¬ σ 32 (h * 5 + i) = x) ∧ σ 30 h < 5 ∧ zup σ 30 h (σ 30 h + 1) = u ∧ v = h * 5 + σ 30 h)) := by
  refine zam (by decide) (Nat.le_of_ble_eq_true rfl) ?_
  refine zwalk zmk_33 [(45, [true, true, true, true, false, false, true, true])] 3 ?_
  show (zI (h * (5 : Int)) ∧ ((0 ≤ h ∧ h < (313 : Int)) ∧ (zI ((h * (5 : Int)) + (σ 30 h)) ∧ ((0 ≤ h ∧ h < (313 : Int)) ∧ ((¬ (σ 30 h) = (5 : Int) → zRuns 33 zX0 (fun (v : Int) (u : zS) => (σ = u ∧ v = -1 ∧ zTH σ h (fun y e => S y e ∨ y = x ∧ e = c)) ∨ (σ = u ∧ h * 5 ≤ v ∧ v < h * 5 + σ 30 h ∧ σ 32 v = x ∧ c < σ 31 v) ∨ ((∀ i : Int, 0 ≤ i → i < σ 30 h → ¬ σ 32 (h * 5 + i) = x) ∧ σ 30 h = 5 ∧ zbe c x (σ 31 (h * 5 + 4)) (σ 32 (h * 5 + 4)) ∧ σ = u ∧ v = h * 5 + 4) ∨ ((∀ i : Int, 0 ≤ i → i < σ 30 h → ¬ σ 32 (h * 5 + i) = x) ∧ σ 30 h < 5 ∧ zup σ 30 h (σ 30 h + 1) = u ∧ v = h * 5 + σ 30 h)) 45 [some (.inr (.inr (6, 0))), some (.inl h), some (.inl c), some (.inr (.inl x)), none, none, some (.inl ((h * (5 : Int)) + (σ 30 h))), some (.inl (h * (5 : Int)))] [] σ) ∧ ((σ 30 h) = (5 : Int) → (zI (((h * (5 : Int)) + (σ 30 h)) - (1 : Int)) ∧ (∃ Rc : Int → zS → Prop, zAM 34 [.inr (.inr (6, 0)), .inl c, .inr (.inl x), .inl (((h * (5 : Int)) + (σ 30 h)) - (1 : Int))] σ Rc ∧ ∀ (v1 : Int) (u1 : zS), zI v1 → Rc v1 u1 → ((¬ v1 = 0 → zRuns 33 zX0 (fun (v : Int) (u : zS) => (σ = u ∧ v = -1 ∧ zTH σ h (fun y e => S y e ∨ y = x ∧ e = c)) ∨ (σ = u ∧ h * 5 ≤ v ∧ v < h * 5 + σ 30 h ∧ σ 32 v = x ∧ c < σ 31 v) ∨ ((∀ i : Int, 0 ≤ i → i < σ 30 h → ¬ σ 32 (h * 5 + i) = x) ∧ σ 30 h = 5 ∧ zbe c x (σ 31 (h * 5 + 4)) (σ 32 (h * 5 + 4)) ∧ σ = u ∧ v = h * 5 + 4) ∨ ((∀ i : Int, 0 ≤ i → i < σ 30 h → ¬ σ 32 (h * 5 + i) = x) ∧ σ 30 h < 5 ∧ zup σ 30 h (σ 30 h + 1) = u ∧ v = h * 5 + σ 30 h)) 45 [some (.inr (.inr (6, 0))), some (.inl h), some (.inl c), some (.inr (.inl x)), none, none, some (.inl ((h * (5 : Int)) + (σ 30 h))), some (.inl (h * (5 : Int)))] [] u1) ∧ (v1 = 0 → ((σ = u1 ∧ (-1 : Int) = -1 ∧ zTH σ h (fun y e => S y e ∨ y = x ∧ e = c)) ∨ (σ = u1 ∧ h * 5 ≤ (-1 : Int) ∧ (-1 : Int) < h * 5 + σ 30 h ∧ σ 32 (-1 : Int) = x ∧ c < σ 31 (-1 : Int)) ∨ ((∀ i : Int, 0 ≤ i → i < σ 30 h → ¬ σ 32 (h * 5 + i) = x) ∧ σ 30 h = 5 ∧ zbe c x (σ 31 (h * 5 + 4)) (σ 32 (h * 5 + 4)) ∧ σ = u1 ∧ (-1 : Int) = h * 5 + 4) ∨ ((∀ i : Int, 0 ≤ i → i < σ 30 h → ¬ σ 32 (h * 5 + i) = x) ∧ σ 30 h < 5 ∧ zup σ 30 h (σ 30 h + 1) = u1 ∧ (-1 : Int) = h * 5 + σ 30 h))))))))))))
  have hn := hT.1
  refine ⟨by (first | exact ⟨by omega, by omega⟩ | (exfalso; omega)), ?_⟩
  refine ⟨by (first | exact ⟨by omega, by omega⟩ | (exfalso; omega)), ?_⟩
  refine ⟨by (first | exact ⟨by omega, by omega⟩ | (exfalso; omega)), ?_⟩
  refine ⟨by (first | exact ⟨by omega, by omega⟩ | (exfalso; omega)), ?_⟩
  refine ⟨?_, ?_⟩
  · intro h1
    exact lp_placeFor hh hT (fun q => by omega) 6 _ (by omega) (by omega) (fun j j0 j1 => by omega)
  · intro h2
    refine ⟨by (first | exact ⟨by omega, by omega⟩ | (exfalso; omega)), ?_⟩
    refine ⟨_, am_X4_isAhead (by omega), ?_⟩
    intro v1 u1 hv1
    rintro ⟨rfl, (⟨rfl, cv1⟩ | ⟨rfl, cv1⟩)⟩
    · refine ⟨?_, ?_⟩
      · intro _
        exact lp_placeFor hh hT (fun _ => by rw [show h * 5 + σ 30 h - 1 = h * 5 + 4 by omega] at cv1; exact cv1) 6 _ (by omega) (by omega) (fun j j0 j1 => by omega)
      · exact fun h => absurd h (by decide)
    · refine ⟨?_, ?_⟩
      · exact fun h => absurd h (by decide)
      · intro _
        refine Or.inl ⟨rfl, rfl, ?_⟩
        have e5 : σ 30 h = 5 := by omega
        rw [show h * 5 + σ 30 h - 1 = h * 5 + 4 by omega] at cv1
        unfold zTH
        exact zTop.over hT e5 cv1
theorem z2u {s : zS} {p a b j : Int} : (zup (zup s 31 p a) 32 p b) 31 j = (if j = p then a else s 31 j) ∧ (zup (zup s 31 p a) 32 p b) 32 j = (if j = p then b else s 32 j) :=
  ⟨by rw [zup_ne (by decide), zup_at], by rw [zup_at, zup_ne (by decide)]⟩
set_option maxRecDepth 100000 in
set_option maxHeartbeats 4000000 in
theorem lp_offer {h : Int} {c : Int} {x : Int} {q : Int} {τ : zS} (hh : 0 ≤ h ∧ h < 313) (hq : q < h * 5 + 5) : ∀ (n : Nat) (p : Int) (s : zS), p - h * 5 < (n : Int) → (h * 5 ≤ p ∧ p ≤ q) → (zfr [31, 32] τ s) → (∀ j : Int, (j ≤ p ∨ q < j) → s 31 j = τ 31 j ∧ s 32 j = τ 32 j) → (∀ j : Int, p < j → j ≤ q → s 31 j = τ 31 (j - 1) ∧ s 32 j = τ 32 (j - 1)) → (∀ j : Int, p ≤ j → j < q → zbe c x (τ 31 j) (τ 32 j)) → zRuns 32 zX0 (fun (v : Int) (u : zS) => zINS τ u (h * 5) q c x) 22 [some (.inr (.inr (6, 0))), none, some (.inl c), some (.inr (.inl x)), none, some (.inl (h * 5)), some (.inl p)] [] s := by
  intro n
  induction n with
  | zero =>
    intro p s hn p0 hf f1 f2 f3
    exfalso
    omega
  | succ n ih =>
    intro p s hn p0 hf f1 f2 f3
    refine zwalk zmk_32 [(22, [true, false, true, true, false, true, true])] 3 ?_
    show ((p ≤ (h * 5) → ((0 ≤ p ∧ p < (1565 : Int)) ∧ ((0 ≤ p ∧ p < (1565 : Int)) ∧ (zINS τ (zup (zup s 31 p c) 32 p x) (h * 5) q c x)))) ∧ ((h * 5) < p → (zI (p - (1 : Int)) ∧ (∃ Rc : Int → zS → Prop, zAM 34 [.inr (.inr (6, 0)), .inl c, .inr (.inl x), .inl (p - (1 : Int))] s Rc ∧ ∀ (v1 : Int) (u1 : zS), zI v1 → Rc v1 u1 → ((v1 = 0 → ((0 ≤ p ∧ p < (1565 : Int)) ∧ ((0 ≤ p ∧ p < (1565 : Int)) ∧ (zINS τ (zup (zup u1 31 p c) 32 p x) (h * 5) q c x)))) ∧ (¬ v1 = 0 → (zI (p - (1 : Int)) ∧ ((0 ≤ (p - (1 : Int)) ∧ (p - (1 : Int)) < (1565 : Int)) ∧ ((0 ≤ p ∧ p < (1565 : Int)) ∧ (zI (p - (1 : Int)) ∧ ((0 ≤ (p - (1 : Int)) ∧ (p - (1 : Int)) < (1565 : Int)) ∧ ((0 ≤ p ∧ p < (1565 : Int)) ∧ (zI (p + (-1 : Int)) ∧ zRuns 32 zX0 (fun (v : Int) (u : zS) => zINS τ u (h * 5) q c x) 22 [some (.inr (.inr (6, 0))), none, some (.inl c), some (.inr (.inl x)), none, some (.inl (h * 5)), some (.inl (p + (-1 : Int)))] [] (zup (zup u1 31 p (u1 31 (p - (1 : Int)))) 32 p (u1 32 (p - (1 : Int)))))))))))))))))
    refine ⟨?_, ?_⟩
    · intro h1
      refine ⟨by (first | exact ⟨by omega, by omega⟩ | (exfalso; omega)), ?_⟩
      refine ⟨by (first | exact ⟨by omega, by omega⟩ | (exfalso; omega)), ?_⟩
      have z9 := fun j => z2u (s := s) (p := p) (a := c) (b := x) (j := j)
      refine ⟨(hf.up (c := 31) (by decide)).up (c := 32) (by decide), p, p0.1, p0.2, fun j hj => ?_, ?_, fun j j0 j1 => ?_, ?_, f3⟩
      · rw [(z9 j).1, (z9 j).2, if_neg (by omega), if_neg (by omega)]; exact f1 j (by omega)
      · rw [(z9 p).1, (z9 p).2, if_pos rfl, if_pos rfl]; exact ⟨rfl, rfl⟩
      · rw [(z9 j).1, (z9 j).2, if_neg (by omega), if_neg (by omega)]; exact f2 j j0 j1
      · exact Or.inl (by omega)
    · intro h2
      refine ⟨by (first | exact ⟨by omega, by omega⟩ | (exfalso; omega)), ?_⟩
      refine ⟨_, am_X4_isAhead (by omega), ?_⟩
      intro v1 u1 hv1
      rintro ⟨rfl, (⟨rfl, cv1⟩ | ⟨rfl, cv1⟩)⟩
      · refine ⟨?_, ?_⟩
        · exact fun h => absurd h (by decide)
        · intro _
          refine ⟨by (first | exact ⟨by omega, by omega⟩ | (exfalso; omega)), ?_⟩
          refine ⟨by (first | exact ⟨by omega, by omega⟩ | (exfalso; omega)), ?_⟩
          refine ⟨by (first | exact ⟨by omega, by omega⟩ | (exfalso; omega)), ?_⟩
          refine ⟨by (first | exact ⟨by omega, by omega⟩ | (exfalso; omega)), ?_⟩
          refine ⟨by (first | exact ⟨by omega, by omega⟩ | (exfalso; omega)), ?_⟩
          refine ⟨by (first | exact ⟨by omega, by omega⟩ | (exfalso; omega)), ?_⟩
          refine ⟨by (first | exact ⟨by omega, by omega⟩ | (exfalso; omega)), ?_⟩
          have z9 := fun j => z2u (s := s) (p := p) (a := s 31 (p - 1)) (b := s 32 (p - 1)) (j := j)
          refine ih (p + -1) _ (by omega) ⟨by omega, by omega⟩ ((hf.up (c := 31) (by decide)).up (c := 32) (by decide)) (fun j hj => ?_) (fun j j0 j1 => ?_) (fun j j0 j1 => ?_)
          · rw [(z9 j).1, (z9 j).2, if_neg (by omega), if_neg (by omega)]; exact f1 j (by omega)
          · by_cases e : j = p
            · rw [(z9 j).1, (z9 j).2, if_pos e, if_pos e, e]; exact f1 (p - 1) (by omega)
            · rw [(z9 j).1, (z9 j).2, if_neg e, if_neg e]; exact f2 j (by omega) j1
          · by_cases e : j = p - 1
            · rw [e, ← (f1 (p - 1) (by omega)).1, ← (f1 (p - 1) (by omega)).2]; exact cv1
            · exact f3 j (by omega) j1
      · refine ⟨?_, ?_⟩
        · intro _
          refine ⟨by (first | exact ⟨by omega, by omega⟩ | (exfalso; omega)), ?_⟩
          refine ⟨by (first | exact ⟨by omega, by omega⟩ | (exfalso; omega)), ?_⟩
          have z9 := fun j => z2u (s := s) (p := p) (a := c) (b := x) (j := j)
          refine ⟨(hf.up (c := 31) (by decide)).up (c := 32) (by decide), p, p0.1, p0.2, fun j hj => ?_, ?_, fun j j0 j1 => ?_, ?_, f3⟩
          · rw [(z9 j).1, (z9 j).2, if_neg (by omega), if_neg (by omega)]; exact f1 j (by omega)
          · rw [(z9 p).1, (z9 p).2, if_pos rfl, if_pos rfl]; exact ⟨rfl, rfl⟩
          · rw [(z9 j).1, (z9 j).2, if_neg (by omega), if_neg (by omega)]; exact f2 j j0 j1
          · exact Or.inr (by rw [← (f1 (p - 1) (by omega)).1, ← (f1 (p - 1) (by omega)).2]; exact cv1)
        · exact fun h => absurd h (by decide)
set_option maxRecDepth 100000 in
set_option maxHeartbeats 4000000 in
theorem am_X4_offer {σ : zS} {h : Int} {c : Int} {x : Int} {S : Int → Int → Prop} (hh : 0 ≤ h ∧ h < 313) (hT : zTH σ h S) : zAM 32 [.inr (.inr (6, 0)), .inl h, .inl c, .inr (.inl x)] σ (fun (v : Int) (u : zS) => zHF σ u h ∧ zTH u h (fun y e => S y e ∨ y = x ∧ e = c)) := by
  refine zam (by decide) (Nat.le_of_ble_eq_true rfl) ?_
  refine zwalk zmk_32 [(22, [true, false, true, true, false, true, true])] 2 ?_
  show (zI (h * (5 : Int)) ∧ (∃ Rc : Int → zS → Prop, zAM 33 [.inr (.inr (6, 0)), .inl h, .inl c, .inr (.inl x)] σ Rc ∧ ∀ (v1 : Int) (u1 : zS), zI v1 → Rc v1 u1 → (((h * (5 : Int)) ≤ v1 → zRuns 32 zX0 (fun (v : Int) (u : zS) => zHF σ u h ∧ zTH u h (fun y e => S y e ∨ y = x ∧ e = c)) 22 [some (.inr (.inr (6, 0))), none, some (.inl c), some (.inr (.inl x)), none, some (.inl (h * (5 : Int))), some (.inl v1)] [] u1) ∧ (v1 < (h * (5 : Int)) → (zHF σ u1 h ∧ zTH u1 h (fun y e => S y e ∨ y = x ∧ e = c))))))
  have hn := hT.1
  refine ⟨by (first | exact ⟨by omega, by omega⟩ | (exfalso; omega)), ?_⟩
  refine ⟨_, am_X4_placeFor (hh) (hT), ?_⟩
  intro v1 u1 hv1
  intro kv1
  obtain ⟨hv1a, hv1b⟩ := hv1
  refine ⟨?_, ?_⟩
  · intro h1
    have q0 : h * 5 ≤ v1 ∧ v1 < h * 5 + 5 := by rcases kv1 with ⟨-, a, -⟩ | ⟨-, a, b, -⟩ | ⟨-, b, -, -, a⟩ | ⟨-, b, -, a⟩ <;> omega
    have ek : ∀ k : Nat, k ≠ 30 → u1 k = σ k := fun k hk => by rcases kv1 with ⟨rfl, -⟩ | ⟨rfl, -⟩ | ⟨-, -, -, rfl, -⟩ | ⟨-, -, rfl, -⟩ <;> first | rfl | exact zup_ne hk
    have e30 : ∀ j : Int, ¬ j = h → u1 30 j = σ 30 j := fun j hj => by rcases kv1 with ⟨rfl, -⟩ | ⟨rfl, -⟩ | ⟨-, -, -, rfl, -⟩ | ⟨-, -, rfl, -⟩ <;> first | rfl | (rw [zup_at, if_neg hj])
    refine (lp_offer (τ := u1) hh q0.2 6 v1 u1 (by omega) ⟨q0.1, by omega⟩ zfr.rf (fun j _ => ⟨rfl, rfl⟩) (fun j a b => by omega) (fun j a b => by omega)).mono (fun v u hi => ?_)
    have ht := zINS_top hT (ek 31 (by decide)) (ek 32 (by decide)) hi
    obtain ⟨g1, p, p0, p1, g2, -⟩ := hi
    refine ⟨⟨fun k hk => ?_, fun j hj => ?_, fun j hj => ?_⟩, ht ?_⟩
    · rw [g1 k (fun q => hk (by simp only [List.mem_cons] at q ⊢; exact Or.inr q)), ek k (fun q => hk (by rw [q]; decide))]
    · rw [g1 30 (by decide), e30 j hj]
    · have := g2 j (by omega)
      rw [ek 31 (by decide), ek 32 (by decide)] at this
      exact this
    · rcases kv1 with ⟨-, a, -⟩ | ⟨rfl, a, b, b2, b3⟩ | ⟨b, b2, b3, rfl, a⟩ | ⟨b, b2, rfl, a⟩
      · omega
      · exact Or.inl ⟨b, b2, b3, rfl⟩
      · exact Or.inr ⟨b, Or.inr ⟨a, b2, b2, b3⟩⟩
      · exact Or.inr ⟨b, Or.inl ⟨a, b2, by rw [zup_at, if_pos rfl]⟩⟩
  · intro h2
    rcases kv1 with ⟨rfl, -, e3⟩ | ⟨-, a, -⟩ | ⟨-, -, -, -, a⟩ | ⟨-, -, -, a⟩
    · exact ⟨zHF.rf, e3⟩
    all_goals omega
