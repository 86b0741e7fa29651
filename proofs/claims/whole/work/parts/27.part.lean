noncomputable def zlI (wx ws : Int → Int) (g : Int) (n : Nat) (j : Int) : Int := zji (zlT wx ws g n) (zdx wx ws n) j (zdn ws n)
noncomputable def zlO (wx ws : Int → Int) (g : Int) (n : Nat) (j : Int) : Int := zjo (zlT wx ws g n) (zlR wx ws g n) (zdx wx ws n) j (zdn ws n)
noncomputable def zlL (wx ws : Int → Int) (g : Int) (n : Nat) : Int := zjl (zlT wx ws g n) (zdx wx ws n) (zdn ws n)
/-- the class's cells of THE LINE hold what follows -/
def zLC (wx ws : Int → Int) (g : Int) (n : Nat) (u : zS) : Prop := u 2 7 = zlN ws n ∧ u 2 10 = zlK wx ws g n ∧ u 2 11 = zlL wx ws g n ∧ (∀ j : Int, 0 ≤ j → j < zlN ws n → u 17 j = zlX wx ws n j ∧ u 18 j = zlX ws ws n j ∧ u 19 j = zlO wx ws g n j) ∧ (∀ j : Int, 0 ≤ j → j ≤ zlK wx ws g n → u 20 j = zlF wx ws g n j) ∧ ∀ j : Int, 0 ≤ j → j < zlK wx ws g n → u 21 j = zlI wx ws g n j
set_option maxRecDepth 100000 in
set_option maxHeartbeats 4000000 in
theorem am_X2_part {σ : zS} {n : Nat} (hn : σ 2 2 = (n : Int)) (hn40 : n ≤ 40) (hw : ∀ j : Int, 0 ≤ j → j < n → 0 ≤ σ 15 j ∧ σ 15 j ≤ 2000) : zAM 15 [.inr (.inr (2, 0))] σ (fun (v : Int) (u : zS) => zfr [2, 17, 18, 19, 20, 21] σ u ∧ (∀ j : Int, ¬ j = 7 → ¬ j = 10 → ¬ j = 11 → u 2 j = σ 2 j) ∧ zLC (σ 15) (σ 16) (σ 2 3) n u) := by
  refine zam (by decide) (Nat.le_of_ble_eq_true rfl) ?_
  refine zwalk zmk_15 [] 2 ?_
  show (∃ Rc : Int → zS → Prop, zAM 16 [.inr (.inr (2, 0))] σ Rc ∧ ∀ (u1 : zS), Rc 0 u1 → (∃ Rc : Int → zS → Prop, zAM 17 [.inr (.inr (2, 0))] u1 Rc ∧ ∀ (u2 : zS), Rc 0 u2 → (∃ Rc : Int → zS → Prop, zAM 18 [.inr (.inr (2, 0))] u2 Rc ∧ ∀ (u3 : zS), Rc 0 u3 → (zfr [2, 17, 18, 19, 20, 21] σ u3 ∧ (∀ j : Int, ¬ j = 7 → ¬ j = 10 → ¬ j = 11 → u3 2 j = σ 2 j) ∧ zLC (σ 15) (σ 16) (σ 2 3) n u3))))
  refine ⟨_, am_X2_gatherPieces (hn) (hn40), ?_⟩
  intro u1
  intro kv1
  obtain ⟨f1, a1, a2, a3⟩ := kv1
  have b15 : u1 15 = σ 15 := f1 15 (by decide)
  have b16 : u1 16 = σ 16 := f1 16 (by decide)
  have hNl : 0 ≤ zlN (σ 16) n ∧ zlN (σ 16) n ≤ n := zpn_le (σ 16) n
  have hN9 : (((zlN (σ 16) n).toNat : Nat) : Int) = zlN (σ 16) n := Int.toNat_of_nonneg hNl.1
  have hX9 : ∀ j : Int, 0 ≤ j → j < zlN (σ 16) n → 0 ≤ zlX (σ 15) (σ 16) n j ∧ zlX (σ 15) (σ 16) n j ≤ 2000 := fun j p q => zga_r (P := fun y => 0 ≤ y ∧ y ≤ 2000) (fun k hk _ => hw k (by omega) (by omega)) j p q
  refine ⟨_, am_X2_beginInks (n := (zlN (σ 16) n).toNat) (by rw [hN9]; exact a2) (by omega) (by
    intro j q1 q2
    rw [hN9] at q2
    rw [(a3 j q1 q2).1]
    exact hX9 j q1 q2), ?_⟩
  intro u2
  intro kv2
  obtain ⟨f2, c1, c2, c3, c4⟩ := kv2
  have g9 : u1 2 3 = σ 2 3 := a1 3 (by decide)
  have hzz := zbk_congr (x := u1 17) (y := zlX (σ 15) (σ 16) n) (g := σ 2 3) (n := (zlN (σ 16) n).toNat) (fun j p q => (a3 j p (by rw [hN9] at q; exact q)).1)
  rw [g9, hzz.1] at c2 c3 c4
  rw [hzz.2] at c4
  rw [hN9] at c3
  have hK9 : zbk (zlX (σ 15) (σ 16) n) (σ 2 3) (zlN (σ 16) n).toNat = zlK (σ 15) (σ 16) (σ 2 3) n := rfl
  rw [hK9] at c2 c3 c4
  have hb9 := @zlF_b (σ 15) (σ 16) (σ 2 3) n
  have d17 : u2 17 = u1 17 := f2 17 (by decide)
  have d15 : u2 15 = σ 15 := by rw [f2 15 (by decide), b15]
  have d16 : u2 16 = σ 16 := by rw [f2 16 (by decide), b16]
  have d20 : ∀ j : Int, 0 ≤ j → j ≤ zlK (σ 15) (σ 16) (σ 2 3) n → u2 20 j = zlF (σ 15) (σ 16) (σ 2 3) n j := by
    intro j j0 j1
    by_cases e : j = zlK (σ 15) (σ 16) (σ 2 3) n
    · rw [e, c3, hb9.2.2.2]
    · rw [(c4 j j0 (by omega)).1]
      exact (if_neg e).symm
  have dL : zLF u2 := by
    refine ⟨by omega, by omega, fun i i0 i1 => ?_, fun j j0 j1 j2 => ?_⟩
    · have := hb9.2.2.1 i i0 (by omega)
      rw [d20 i i0 (by omega), d20 (i + 1) (by omega) (by omega)]
      omega
    · rw [c2, d20 _ (by omega) (Int.le_refl _), hb9.2.2.2] at j2
      rw [d17, (a3 j j0 j2).1]
      exact hX9 j j0 j2
  have d2 : u2 2 2 = (n : Int) := by rw [c1 2 (by decide), a1 2 (by decide), hn]
  refine ⟨_, am_X2_joinDots (n := n) (dL) (d2) (hn40) (by rw [d15]; exact hw) (by
    intro j q1 q2
    rw [c2] at q2
    exact (c4 j q1 q2).2) (by
    intro j q1 q2
    rw [c2, d20 _ (by omega) (Int.le_refl _), hb9.2.2.2] at q2
    rw [f2 19 (by decide)]
    exact (a3 j q1 q2).2.2), ?_⟩
  intro u3
  intro kv3
  obtain ⟨f3, m1, m2, m3, m4⟩ := kv3
  have htf : ∀ p, ztf (u2 17) (u2 20) (u2 2 10) p = zlT (σ 15) (σ 16) (σ 2 3) n p := by
    intro p
    rw [c2]
    refine ztf_congr (N := zlN (σ 16) n) (fun j p q => by rw [d17]; exact (a3 j p q).1) d20 (fun i i0 i1 => ?_)
    have := hb9.2.2.1 i i0 i1
    rw [d20 i i0 (by omega), d20 (i + 1) (by omega) (by omega)]
    omega
  have hdx9 : ∀ e, e < zdn (σ 16) n → ztf (u2 17) (u2 20) (u2 2 10) (zdx (σ 15) (σ 16) n e) = zlT (σ 15) (σ 16) (σ 2 3) n (zdx (σ 15) (σ 16) n e) := fun e _ => htf _
  rw [d15, d16] at m2 m3 m4
  obtain ⟨hj1, hj2⟩ := zjl_congr (DX := zdx (σ 15) (σ 16) n) (DX' := zdx (σ 15) (σ 16) n) (zdn (σ 16) n) hdx9
  have hj3 := zjo_congr (nr := znr (u2 17) (u2 20)) (nr' := zlR (σ 15) (σ 16) (σ 2 3) n) (DX := zdx (σ 15) (σ 16) n) (DX' := zdx (σ 15) (σ 16) n) (zdn (σ 16) n) (fun e he => ⟨hdx9 e he, fun q => by
    rw [htf] at q ⊢
    have hr := ztf_r (x := zlX (σ 15) (σ 16) n) (f := zlF (σ 15) (σ 16) (σ 2 3) n) (n := zlK (σ 15) (σ 16) (σ 2 3) n) (p := zdx (σ 15) (σ 16) n e) hb9.1.1
    have q2 : 0 ≤ ztf (zlX (σ 15) (σ 16) n) (zlF (σ 15) (σ 16) (σ 2 3) n) (zlK (σ 15) (σ 16) (σ 2 3) n) (zdx (σ 15) (σ 16) n e) := q
    refine znr_congr (N := zlN (σ 16) n) (n := zlK (σ 15) (σ 16) (σ 2 3) n) (fun j p q => by rw [d17]; exact (a3 j p q).1) d20 (fun i i0 i1 => ?_) q (by show ztf _ _ _ _ < _; omega)
    have := hb9.2.2.1 i i0 i1
    rw [d20 i i0 (by omega), d20 (i + 1) (by omega) (by omega)]
    omega⟩)
  refine ⟨fun k hk => ?_, fun j j1 j2 j3 => ?_, ?_, ?_, ?_, ?_, ?_, ?_⟩
  · have hk2 : k ∉ [2, 19, 21] := fun q => hk (by simp at q ⊢; omega)
    have hk3 : k ∉ [2, 20, 21] := fun q => hk (by simp at q ⊢; omega)
    have hk4 : k ∉ [2, 17, 18, 19] := fun q => hk (by simp at q ⊢; omega)
    rw [f3 k hk2, f2 k hk3, f1 k hk4]
  · rw [m1 j j3, c1 j j2, a1 j j1]
  · rw [m1 7 (by decide), c1 7 (by decide), a2]; rfl
  · rw [m1 10 (by decide), c2]
  · rw [m2, hj1]; rfl
  · intro j j0 j1
    have := a3 j j0 j1
    rw [f3 17 (by decide), d17, f3 18 (by decide), f2 18 (by decide)]
    refine ⟨this.1, this.2.1, ?_⟩
    rw [m4 j j0 (by rw [c2, d20 _ (by omega) (Int.le_refl _), hb9.2.2.2]; exact j1)]
    exact hj3 j
  · intro j j0 j1
    rw [f3 20 (by decide)]
    exact d20 j j0 j1
  · intro j j0 j1
    rw [m3 j j0 (by rw [c2]; exact j1)]
    exact hj2 j
