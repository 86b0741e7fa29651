/-! the model's partLine -/
noncomputable def zmF (x : Int → Int) (g : Int) (n : Nat) : Int → Int := fun j => if j = zbk x g n then (n : Int) else zfs x g n j
theorem zmF_b {x : Int → Int} {g : Int} {n : Nat} : (0 ≤ zbk x g n ∧ zbk x g n ≤ n) ∧ (∀ i : Int, 0 ≤ i → i < zbk x g n → 0 ≤ zmF x g n i ∧ zmF x g n i < zmF x g n (i + 1) ∧ zmF x g n (i + 1) ≤ n) ∧ zmF x g n (zbk x g n) = n := by
  have h1 := zbk_le x g n
  refine ⟨h1, fun i i0 i1 => ?_, if_pos rfl⟩
  have r1 := zfs_r (x := x) (g := g) (n := n) (j := i) i0 i1
  have e1 : zmF x g n i = zfs x g n i := if_neg (by omega)
  by_cases e : i + 1 = zbk x g n
  · have e2 : zmF x g n (i + 1) = (n : Int) := if_pos e
    rw [e1, e2]
    omega
  · have e2 : zmF x g n (i + 1) = zfs x g n (i + 1) := if_neg e
    have r2 := zfs_r (x := x) (g := g) (n := n) (j := i + 1) (by omega) (by omega)
    have r3 := zfs_mono (x := x) (g := g) (n := n) (i := i) (j := i + 1) i0 (by omega) (by omega)
    rw [e1, e2]
    omega
set_option maxRecDepth 100000 in
set_option maxHeartbeats 4000000 in
theorem lp_mm {σ : zS} {R : Int → zS → Prop} {d w i a b : Int} (hi : 0 ≤ i ∧ i < 40) (hb : σ 45 (i + 1) = b) (h0 : 0 ≤ a ∧ a ≤ b ∧ b ≤ 40) (hx : ∀ j : Int, a ≤ j → j < b → 0 ≤ σ 41 j ∧ σ 41 j ≤ 2000) (K : zRuns 112 zX0 R 216 [some (.inr (.inr (9, 0))), some (.inl d), some (.inl w), some (.inl i), some (.inl (zmn (σ 41) a 5000 (b - a).toNat)), some (.inl (zmx (σ 41) a (-1) (b - a).toNat)), none] [] σ) : ∀ (n m : Nat), a + (m : Int) + (n : Int) = b → zRuns 112 zX0 R 145 [some (.inr (.inr (9, 0))), some (.inl d), some (.inl w), some (.inl i), some (.inl (zmn (σ 41) a 5000 m)), some (.inl (zmx (σ 41) a (-1) m)), some (.inl (a + (m : Int)))] [] σ := by
  intro n
  induction n with
  | zero =>
    intro m hm
    refine zwalk zmk_112 [(145, [true, true, true, true, true, true, true]), (216, [true, true, true, true, true, true, false])] 4 ?_
    show (zI (i + (1 : Int)) ∧ ((0 ≤ (i + (1 : Int)) ∧ (i + (1 : Int)) < (41 : Int)) ∧ (((σ 45 (i + (1 : Int))) ≤ (a + (m : Int)) → zRuns 112 zX0 R 216 [some (.inr (.inr (9, 0))), some (.inl d), some (.inl w), some (.inl i), some (.inl (zmn (σ 41) a 5000 m)), some (.inl (zmx (σ 41) a (-1) m)), none] [] σ) ∧ ((a + (m : Int)) < (σ 45 (i + (1 : Int))) → ((0 ≤ (a + (m : Int)) ∧ (a + (m : Int)) < (40 : Int)) ∧ (((zmn (σ 41) a 5000 m) ≤ (σ 41 (a + (m : Int))) → ((0 ≤ (a + (m : Int)) ∧ (a + (m : Int)) < (40 : Int)) ∧ (((σ 41 (a + (m : Int))) ≤ (zmx (σ 41) a (-1) m) → (zI ((a + (m : Int)) + (1 : Int)) ∧ zRuns 112 zX0 R 145 [some (.inr (.inr (9, 0))), some (.inl d), some (.inl w), some (.inl i), some (.inl (zmn (σ 41) a 5000 m)), some (.inl (zmx (σ 41) a (-1) m)), some (.inl ((a + (m : Int)) + (1 : Int)))] [] σ)) ∧ ((zmx (σ 41) a (-1) m) < (σ 41 (a + (m : Int))) → ((0 ≤ (a + (m : Int)) ∧ (a + (m : Int)) < (40 : Int)) ∧ (zI ((a + (m : Int)) + (1 : Int)) ∧ zRuns 112 zX0 R 145 [some (.inr (.inr (9, 0))), some (.inl d), some (.inl w), some (.inl i), some (.inl (zmn (σ 41) a 5000 m)), some (.inl (σ 41 (a + (m : Int)))), some (.inl ((a + (m : Int)) + (1 : Int)))] [] σ)))))) ∧ ((σ 41 (a + (m : Int))) < (zmn (σ 41) a 5000 m) → ((0 ≤ (a + (m : Int)) ∧ (a + (m : Int)) < (40 : Int)) ∧ ((0 ≤ (a + (m : Int)) ∧ (a + (m : Int)) < (40 : Int)) ∧ (((σ 41 (a + (m : Int))) ≤ (zmx (σ 41) a (-1) m) → (zI ((a + (m : Int)) + (1 : Int)) ∧ zRuns 112 zX0 R 145 [some (.inr (.inr (9, 0))), some (.inl d), some (.inl w), some (.inl i), some (.inl (σ 41 (a + (m : Int)))), some (.inl (zmx (σ 41) a (-1) m)), some (.inl ((a + (m : Int)) + (1 : Int)))] [] σ)) ∧ ((zmx (σ 41) a (-1) m) < (σ 41 (a + (m : Int))) → ((0 ≤ (a + (m : Int)) ∧ (a + (m : Int)) < (40 : Int)) ∧ (zI ((a + (m : Int)) + (1 : Int)) ∧ zRuns 112 zX0 R 145 [some (.inr (.inr (9, 0))), some (.inl d), some (.inl w), some (.inl i), some (.inl (σ 41 (a + (m : Int)))), some (.inl (σ 41 (a + (m : Int)))), some (.inl ((a + (m : Int)) + (1 : Int)))] [] σ)))))))))))))
    refine ⟨by (first | exact ⟨by omega, by omega⟩ | (exfalso; omega)), ?_⟩
    refine ⟨by (first | exact ⟨by omega, by omega⟩ | (exfalso; omega)), ?_⟩
    refine ⟨?_, ?_⟩
    · intro h1
      rw [show (b - a).toNat = m by omega] at K
      exact K
    · intro h2
      refine ⟨by (first | exact ⟨by omega, by omega⟩ | (exfalso; omega)), ?_⟩
      refine ⟨?_, ?_⟩
      · intro h3
        refine ⟨by (first | exact ⟨by omega, by omega⟩ | (exfalso; omega)), ?_⟩
        refine ⟨?_, ?_⟩
        · intro h4
          refine ⟨by (first | exact ⟨by omega, by omega⟩ | (exfalso; omega)), ?_⟩
          exfalso; omega
        · intro h5
          refine ⟨by (first | exact ⟨by omega, by omega⟩ | (exfalso; omega)), ?_⟩
          refine ⟨by (first | exact ⟨by omega, by omega⟩ | (exfalso; omega)), ?_⟩
          exfalso; omega
      · intro h6
        refine ⟨by (first | exact ⟨by omega, by omega⟩ | (exfalso; omega)), ?_⟩
        refine ⟨by (first | exact ⟨by omega, by omega⟩ | (exfalso; omega)), ?_⟩
        refine ⟨?_, ?_⟩
        · intro h7
          refine ⟨by (first | exact ⟨by omega, by omega⟩ | (exfalso; omega)), ?_⟩
          exfalso; omega
        · intro h8
          refine ⟨by (first | exact ⟨by omega, by omega⟩ | (exfalso; omega)), ?_⟩
          refine ⟨by (first | exact ⟨by omega, by omega⟩ | (exfalso; omega)), ?_⟩
          exfalso; omega
  | succ n ih =>
    intro m hm
    have hx1 := hx (a + (m : Int)) (by omega) (by omega)
    have e1 : a + ((m + 1 : Nat) : Int) = a + (m : Int) + 1 := by omega
    have hI := ih (m + 1) (by omega)
    rw [e1] at hI
    have e2 : zmn (σ 41) a 5000 (m + 1) = min (zmn (σ 41) a 5000 m) (σ 41 (a + (m : Int))) := rfl
    have e3 : zmx (σ 41) a (-1) (m + 1) = max (zmx (σ 41) a (-1) m) (σ 41 (a + (m : Int))) := rfl
    refine zwalk zmk_112 [(145, [true, true, true, true, true, true, true]), (216, [true, true, true, true, true, true, false])] 4 ?_
    show (zI (i + (1 : Int)) ∧ ((0 ≤ (i + (1 : Int)) ∧ (i + (1 : Int)) < (41 : Int)) ∧ (((σ 45 (i + (1 : Int))) ≤ (a + (m : Int)) → zRuns 112 zX0 R 216 [some (.inr (.inr (9, 0))), some (.inl d), some (.inl w), some (.inl i), some (.inl (zmn (σ 41) a 5000 m)), some (.inl (zmx (σ 41) a (-1) m)), none] [] σ) ∧ ((a + (m : Int)) < (σ 45 (i + (1 : Int))) → ((0 ≤ (a + (m : Int)) ∧ (a + (m : Int)) < (40 : Int)) ∧ (((zmn (σ 41) a 5000 m) ≤ (σ 41 (a + (m : Int))) → ((0 ≤ (a + (m : Int)) ∧ (a + (m : Int)) < (40 : Int)) ∧ (((σ 41 (a + (m : Int))) ≤ (zmx (σ 41) a (-1) m) → (zI ((a + (m : Int)) + (1 : Int)) ∧ zRuns 112 zX0 R 145 [some (.inr (.inr (9, 0))), some (.inl d), some (.inl w), some (.inl i), some (.inl (zmn (σ 41) a 5000 m)), some (.inl (zmx (σ 41) a (-1) m)), some (.inl ((a + (m : Int)) + (1 : Int)))] [] σ)) ∧ ((zmx (σ 41) a (-1) m) < (σ 41 (a + (m : Int))) → ((0 ≤ (a + (m : Int)) ∧ (a + (m : Int)) < (40 : Int)) ∧ (zI ((a + (m : Int)) + (1 : Int)) ∧ zRuns 112 zX0 R 145 [some (.inr (.inr (9, 0))), some (.inl d), some (.inl w), some (.inl i), some (.inl (zmn (σ 41) a 5000 m)), some (.inl (σ 41 (a + (m : Int)))), some (.inl ((a + (m : Int)) + (1 : Int)))] [] σ)))))) ∧ ((σ 41 (a + (m : Int))) < (zmn (σ 41) a 5000 m) → ((0 ≤ (a + (m : Int)) ∧ (a + (m : Int)) < (40 : Int)) ∧ ((0 ≤ (a + (m : Int)) ∧ (a + (m : Int)) < (40 : Int)) ∧ (((σ 41 (a + (m : Int))) ≤ (zmx (σ 41) a (-1) m) → (zI ((a + (m : Int)) + (1 : Int)) ∧ zRuns 112 zX0 R 145 [some (.inr (.inr (9, 0))), some (.inl d), some (.inl w), some (.inl i), some (.inl (σ 41 (a + (m : Int)))), some (.inl (zmx (σ 41) a (-1) m)), some (.inl ((a + (m : Int)) + (1 : Int)))] [] σ)) ∧ ((zmx (σ 41) a (-1) m) < (σ 41 (a + (m : Int))) → ((0 ≤ (a + (m : Int)) ∧ (a + (m : Int)) < (40 : Int)) ∧ (zI ((a + (m : Int)) + (1 : Int)) ∧ zRuns 112 zX0 R 145 [some (.inr (.inr (9, 0))), some (.inl d), some (.inl w), some (.inl i), some (.inl (σ 41 (a + (m : Int)))), some (.inl (σ 41 (a + (m : Int)))), some (.inl ((a + (m : Int)) + (1 : Int)))] [] σ)))))))))))))
    refine ⟨by (first | exact ⟨by omega, by omega⟩ | (exfalso; omega)), ?_⟩
    refine ⟨by (first | exact ⟨by omega, by omega⟩ | (exfalso; omega)), ?_⟩
    refine ⟨?_, ?_⟩
    · intro h1
      exfalso; omega
    · intro h2
      refine ⟨by (first | exact ⟨by omega, by omega⟩ | (exfalso; omega)), ?_⟩
      refine ⟨?_, ?_⟩
      · intro h3
        refine ⟨by (first | exact ⟨by omega, by omega⟩ | (exfalso; omega)), ?_⟩
        refine ⟨?_, ?_⟩
        · intro h4
          refine ⟨by (first | exact ⟨by omega, by omega⟩ | (exfalso; omega)), ?_⟩
          have f1 : zmn (σ 41) a 5000 (m + 1) = (zmn (σ 41) a 5000 m) := by omega
          have f2 : zmx (σ 41) a (-1) (m + 1) = (zmx (σ 41) a (-1) m) := by omega
          rw [f1, f2] at hI
          exact hI
        · intro h5
          refine ⟨by (first | exact ⟨by omega, by omega⟩ | (exfalso; omega)), ?_⟩
          refine ⟨by (first | exact ⟨by omega, by omega⟩ | (exfalso; omega)), ?_⟩
          have f1 : zmn (σ 41) a 5000 (m + 1) = (zmn (σ 41) a 5000 m) := by omega
          have f2 : zmx (σ 41) a (-1) (m + 1) = (σ 41 (a + (m : Int))) := by omega
          rw [f1, f2] at hI
          exact hI
      · intro h6
        refine ⟨by (first | exact ⟨by omega, by omega⟩ | (exfalso; omega)), ?_⟩
        refine ⟨by (first | exact ⟨by omega, by omega⟩ | (exfalso; omega)), ?_⟩
        refine ⟨?_, ?_⟩
        · intro h7
          refine ⟨by (first | exact ⟨by omega, by omega⟩ | (exfalso; omega)), ?_⟩
          have f1 : zmn (σ 41) a 5000 (m + 1) = (σ 41 (a + (m : Int))) := by omega
          have f2 : zmx (σ 41) a (-1) (m + 1) = (zmx (σ 41) a (-1) m) := by omega
          rw [f1, f2] at hI
          exact hI
        · intro h8
          refine ⟨by (first | exact ⟨by omega, by omega⟩ | (exfalso; omega)), ?_⟩
          refine ⟨by (first | exact ⟨by omega, by omega⟩ | (exfalso; omega)), ?_⟩
          have f1 : zmn (σ 41) a 5000 (m + 1) = (σ 41 (a + (m : Int))) := by omega
          have f2 : zmx (σ 41) a (-1) (m + 1) = (σ 41 (a + (m : Int))) := by omega
          rw [f1, f2] at hI
          exact hI
set_option maxRecDepth 100000 in
set_option maxHeartbeats 4000000 in
theorem lp_nn {σ : zS} {R : Int → zS → Prop} {d w p a b : Int} (hi : 0 ≤ w ∧ w < 40) (hd : 0 ≤ d ∧ d < 40) (hdp : σ 44 d = p) (hp : 0 ≤ p ∧ p ≤ 2000) (hb : σ 45 (w + 1) = b) (h0 : 0 ≤ a ∧ a < b ∧ b ≤ 40) (hx : ∀ j : Int, a ≤ j → j < b → 0 ≤ σ 41 j ∧ σ 41 j ≤ 2000) (K : zRuns 112 zX0 R 338 [some (.inr (.inr (9, 0))), some (.inl d), none, some (.inl (zne (σ 41) p a (b - a).toNat)), none, none, none] [] σ) : ∀ (n m : Nat), a + (m : Int) + (n : Int) = b → zRuns 112 zX0 R 296 [some (.inr (.inr (9, 0))), some (.inl d), some (.inl w), some (.inl (zne (σ 41) p a m)), some (.inl (a + (m : Int))), none, none] [] σ := by
  intro n
  induction n with
  | zero =>
    intro m hm
    have hz := zne_r (x := σ 41) (p := p) (a := a) m
    refine zwalk zmk_112 [(296, [true, true, true, true, true, false, false]), (338, [true, true, false, true, false, false, false])] 3 ?_
    show (zI (w + (1 : Int)) ∧ ((0 ≤ (w + (1 : Int)) ∧ (w + (1 : Int)) < (41 : Int)) ∧ (((σ 45 (w + (1 : Int))) ≤ (a + (m : Int)) → zRuns 112 zX0 R 338 [some (.inr (.inr (9, 0))), some (.inl d), none, some (.inl (zne (σ 41) p a m)), none, none, none] [] σ) ∧ ((a + (m : Int)) < (σ 45 (w + (1 : Int))) → (∃ Rc : Int → zS → Prop, zAM 113 [.inr (.inr (9, 0)), .inl (a + (m : Int)), .inl d] σ Rc ∧ ∀ (v1 : Int) (u1 : zS), zI v1 → Rc v1 u1 → (∃ Rc : Int → zS → Prop, zAM 113 [.inr (.inr (9, 0)), .inl (zne (σ 41) p a m), .inl d] u1 Rc ∧ ∀ (v2 : Int) (u2 : zS), zI v2 → Rc v2 u2 → ((v2 ≤ v1 → (zI ((a + (m : Int)) + (1 : Int)) ∧ zRuns 112 zX0 R 296 [some (.inr (.inr (9, 0))), some (.inl d), some (.inl w), some (.inl (zne (σ 41) p a m)), some (.inl ((a + (m : Int)) + (1 : Int))), none, none] [] u2)) ∧ (v1 < v2 → (zI ((a + (m : Int)) + (1 : Int)) ∧ zRuns 112 zX0 R 296 [some (.inr (.inr (9, 0))), some (.inl d), some (.inl w), some (.inl (a + (m : Int))), some (.inl ((a + (m : Int)) + (1 : Int))), none, none] [] u2)))))))))
    refine ⟨by (first | exact ⟨by omega, by omega⟩ | (exfalso; omega)), ?_⟩
    refine ⟨by (first | exact ⟨by omega, by omega⟩ | (exfalso; omega)), ?_⟩
    refine ⟨?_, ?_⟩
    · intro h1
      rw [show (b - a).toNat = m by omega] at K
      exact K
    · intro h2
      refine ⟨_, am_X9_away (by (exfalso; omega)) (by (exfalso; omega)) (by (exfalso; omega)), ?_⟩
      intro v1 u1 hv1
      rintro ⟨rfl, ev1⟩
      obtain ⟨hv1a, hv1b⟩ := hv1
      refine ⟨_, am_X9_away (by (exfalso; omega)) (by (exfalso; omega)) (by (exfalso; omega)), ?_⟩
      intro v2 u2 hv2
      rintro ⟨rfl, ev2⟩
      obtain ⟨hv2a, hv2b⟩ := hv2
      refine ⟨?_, ?_⟩
      · intro h3
        refine ⟨by (first | exact ⟨by omega, by omega⟩ | (exfalso; omega)), ?_⟩
        exfalso; omega
      · intro h4
        refine ⟨by (first | exact ⟨by omega, by omega⟩ | (exfalso; omega)), ?_⟩
        exfalso; omega
  | succ n ih =>
    intro m hm
    have hz := zne_r (x := σ 41) (p := p) (a := a) m
    have hx1 := hx (a + (m : Int)) (by omega) (by omega)
    have hx2 := hx (zne (σ 41) p a m) (by omega) (by omega)
    have e1 : a + ((m + 1 : Nat) : Int) = a + (m : Int) + 1 := by omega
    have hI := ih (m + 1) (by omega)
    rw [e1] at hI
    refine zwalk zmk_112 [(296, [true, true, true, true, true, false, false]), (338, [true, true, false, true, false, false, false])] 3 ?_
    show (zI (w + (1 : Int)) ∧ ((0 ≤ (w + (1 : Int)) ∧ (w + (1 : Int)) < (41 : Int)) ∧ (((σ 45 (w + (1 : Int))) ≤ (a + (m : Int)) → zRuns 112 zX0 R 338 [some (.inr (.inr (9, 0))), some (.inl d), none, some (.inl (zne (σ 41) p a m)), none, none, none] [] σ) ∧ ((a + (m : Int)) < (σ 45 (w + (1 : Int))) → (∃ Rc : Int → zS → Prop, zAM 113 [.inr (.inr (9, 0)), .inl (a + (m : Int)), .inl d] σ Rc ∧ ∀ (v1 : Int) (u1 : zS), zI v1 → Rc v1 u1 → (∃ Rc : Int → zS → Prop, zAM 113 [.inr (.inr (9, 0)), .inl (zne (σ 41) p a m), .inl d] u1 Rc ∧ ∀ (v2 : Int) (u2 : zS), zI v2 → Rc v2 u2 → ((v2 ≤ v1 → (zI ((a + (m : Int)) + (1 : Int)) ∧ zRuns 112 zX0 R 296 [some (.inr (.inr (9, 0))), some (.inl d), some (.inl w), some (.inl (zne (σ 41) p a m)), some (.inl ((a + (m : Int)) + (1 : Int))), none, none] [] u2)) ∧ (v1 < v2 → (zI ((a + (m : Int)) + (1 : Int)) ∧ zRuns 112 zX0 R 296 [some (.inr (.inr (9, 0))), some (.inl d), some (.inl w), some (.inl (a + (m : Int))), some (.inl ((a + (m : Int)) + (1 : Int))), none, none] [] u2)))))))))
    refine ⟨by (first | exact ⟨by omega, by omega⟩ | (exfalso; omega)), ?_⟩
    refine ⟨by (first | exact ⟨by omega, by omega⟩ | (exfalso; omega)), ?_⟩
    refine ⟨?_, ?_⟩
    · intro h1
      exfalso; omega
    · intro h2
      refine ⟨_, am_X9_away (by omega) (by omega) (by rw [hdp]; exact hp), ?_⟩
      intro v1 u1 hv1
      rintro ⟨rfl, rfl⟩
      obtain ⟨hv1a, hv1b⟩ := hv1
      refine ⟨_, am_X9_away (by omega) (by omega) (by rw [hdp]; exact hp), ?_⟩
      intro v2 u2 hv2
      rintro ⟨rfl, rfl⟩
      obtain ⟨hv2a, hv2b⟩ := hv2
      refine ⟨?_, ?_⟩
      · intro h3
        refine ⟨by (first | exact ⟨by omega, by omega⟩ | (exfalso; omega)), ?_⟩
        have e : zne (σ 41) p a (m + 1) = zne (σ 41) p a m := by
          simp only [zne]; rw [if_neg (by rw [hdp] at *; omega)]
        rw [e] at hI; exact hI
      · intro h4
        refine ⟨by (first | exact ⟨by omega, by omega⟩ | (exfalso; omega)), ?_⟩
        have e : zne (σ 41) p a (m + 1) = a + (m : Int) := by
          simp only [zne]; rw [if_pos (by rw [hdp] at *; omega)]
        rw [e] at hI; exact hI
