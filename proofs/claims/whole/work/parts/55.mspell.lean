/-! the model's spell -/
def zMA (f : Int → Int → Int → Int) (w : Nat → Int) (n : Nat) (p : Int) (t : zS) (l a : Int) : Prop := ∀ x y : Int, (l < x ∧ x ≤ n ∨ x = l ∧ a < y) → 0 ≤ y → y ≤ p → t 60 (15 * x + y) = zsp f w n p 1000000000 (n - x).toNat y
set_option maxRecDepth 100000 in
set_option maxHeartbeats 4000000 in
theorem lp_ms60l {l : Int} {a : Int} {i : Int} {q0 : Int} {p : Int} {w : Nat → Int} {n9 : Nat} {f : Int → Int → Int → Int} {σ : zS} {t : zS} {R : Int → zS → Prop} (hi : 0 ≤ i ∧ i < 40) (hp : 0 ≤ p ∧ p ≤ 14) (hw : zlet w n9) (hn12 : n9 ≤ 12) (hb0 : 0 ≤ σ 45 i ∧ σ 45 i + p ≤ 40) (hs : ∀ j : Int, σ 45 i ≤ j → j < σ 45 i + p → 0 ≤ σ 42 j ∧ σ 42 j < 12) (hc47 : ∀ j : Int, 0 ≤ j → j < 49660 → 0 ≤ σ 47 j ∧ σ 47 j ≤ 999) (hfm : ∀ a k l : Int, 0 ≤ a → 1 ≤ k → k ≤ 3 → a + k ≤ p → 0 ≤ l → l < 26 → zmc σ l (σ 45 i + a) k = (if f a k l < 0 then 1000000000 else f a k l) ∧ -1 ≤ f a k l ∧ f a k l ≤ 100) (hwl : 0 ≤ q0 ∧ q0 + n9 ≤ 360 ∧ ∀ j : Int, 0 ≤ j → j < n9 → σ 52 (q0 + j) = w j.toNat) (hl : 0 ≤ l ∧ l ≤ n9) (ha : 0 ≤ a ∧ a ≤ p) (hfr : zfr [60] σ t) (hA : zMA f w n9 p t l a) (K : ∀ t : zS, zfr [60] σ t → zMA f w n9 p t l (a - 1) → zRuns 133 zX0 R 30 [some (.inr (.inr (9, 0))), some (.inl i), some (.inr (.inr (52, 0))), some (.inl q0), some (.inl (n9 : Int)), some (.inl p), some (.inl l), some (.inl (a + -1)), none, none, none, none] [] t) : ∀ (n : Nat) (r : Int) (b : Int), 4 - r < (n : Int) → (1 ≤ r ∧ r ≤ 4) → ((l < n9 ∧ b = zm3 (zrg f w n9 p 1000000000 l a) 1000000000 p a (r - 1).toNat) ∨ (l = n9 ∧ b = if a = p then 0 else 1000000000)) → zRuns 133 zX0 (fun (v : Int) (u : zS) => R v u) 60 [some (.inr (.inr (9, 0))), some (.inl i), some (.inr (.inr (52, 0))), some (.inl q0), some (.inl (n9 : Int)), some (.inl p), some (.inl l), some (.inl a), some (.inl b), some (.inl r), none, none] [] t := by
  intro n
  induction n with
  | zero =>
    intro r b hn r0 hb
    exfalso
    omega
  | succ n ih =>
    intro r b hn r0 hb
    refine zwalk zmk_133 [(21, [true, true, true, true, true, true, true, false, false, false, false, false]), (30, [true, true, true, true, true, true, true, true, false, false, false, false]), (60, [true, true, true, true, true, true, true, true, true, true, false, false])] 3 ?_
    show (((4 : Int) ≤ r → (zI ((15 : Int) * l) ∧ (zI (((15 : Int) * l) + a) ∧ ((0 ≤ (((15 : Int) * l) + a) ∧ (((15 : Int) * l) + a) < (195 : Int)) ∧ (zI (a + (-1 : Int)) ∧ zRuns 133 zX0 (fun (v : Int) (u : zS) => R v u) 30 [some (.inr (.inr (9, 0))), some (.inl i), some (.inr (.inr (52, 0))), some (.inl q0), some (.inl (n9 : Int)), some (.inl p), some (.inl l), some (.inl (a + (-1 : Int))), none, none, none, none] [] (zup t 60 (((15 : Int) * l) + a) b)))))) ∧ (r < (4 : Int) → (((n9 : Int) ≤ l → (zI ((15 : Int) * l) ∧ (zI (((15 : Int) * l) + a) ∧ ((0 ≤ (((15 : Int) * l) + a) ∧ (((15 : Int) * l) + a) < (195 : Int)) ∧ (zI (a + (-1 : Int)) ∧ zRuns 133 zX0 (fun (v : Int) (u : zS) => R v u) 30 [some (.inr (.inr (9, 0))), some (.inl i), some (.inr (.inr (52, 0))), some (.inl q0), some (.inl (n9 : Int)), some (.inl p), some (.inl l), some (.inl (a + (-1 : Int))), none, none, none, none] [] (zup t 60 (((15 : Int) * l) + a) b)))))) ∧ (l < (n9 : Int) → (zI (a + r) ∧ ((p < (a + r) → (zI ((15 : Int) * l) ∧ (zI (((15 : Int) * l) + a) ∧ ((0 ≤ (((15 : Int) * l) + a) ∧ (((15 : Int) * l) + a) < (195 : Int)) ∧ (zI (a + (-1 : Int)) ∧ zRuns 133 zX0 (fun (v : Int) (u : zS) => R v u) 30 [some (.inr (.inr (9, 0))), some (.inl i), some (.inr (.inr (52, 0))), some (.inl q0), some (.inl (n9 : Int)), some (.inl p), some (.inl l), some (.inl (a + (-1 : Int))), none, none, none, none] [] (zup t 60 (((15 : Int) * l) + a) b)))))) ∧ ((a + r) ≤ p → (zI (q0 + l) ∧ ((0 ≤ (q0 + l) ∧ (q0 + l) < (360 : Int)) ∧ ((0 ≤ i ∧ i < (41 : Int)) ∧ (zI ((t 45 i) + a) ∧ (∃ Rc : Int → zS → Prop, zAM 132 [.inr (.inr (9, 0)), .inl (t 52 (q0 + l)), .inl ((t 45 i) + a), .inl r] t Rc ∧ ∀ (v1 : Int) (u1 : zS), zI v1 → Rc v1 u1 → (zI (l + (1 : Int)) ∧ (zI ((15 : Int) * (l + (1 : Int))) ∧ (zI (((15 : Int) * (l + (1 : Int))) + a) ∧ (zI ((((15 : Int) * (l + (1 : Int))) + a) + r) ∧ ((0 ≤ ((((15 : Int) * (l + (1 : Int))) + a) + r) ∧ ((((15 : Int) * (l + (1 : Int))) + a) + r) < (195 : Int)) ∧ (((1000000000 : Int) ≤ v1 → (zI (r + (1 : Int)) ∧ zRuns 133 zX0 (fun (v : Int) (u : zS) => R v u) 60 [some (.inr (.inr (9, 0))), some (.inl i), some (.inr (.inr (52, 0))), some (.inl q0), some (.inl (n9 : Int)), some (.inl p), some (.inl l), some (.inl a), some (.inl b), some (.inl (r + (1 : Int))), none, none] [] u1)) ∧ (v1 < (1000000000 : Int) → (((1000000000 : Int) ≤ (u1 60 ((((15 : Int) * (l + (1 : Int))) + a) + r)) → (zI (r + (1 : Int)) ∧ zRuns 133 zX0 (fun (v : Int) (u : zS) => R v u) 60 [some (.inr (.inr (9, 0))), some (.inl i), some (.inr (.inr (52, 0))), some (.inl q0), some (.inl (n9 : Int)), some (.inl p), some (.inl l), some (.inl a), some (.inl b), some (.inl (r + (1 : Int))), none, none] [] u1)) ∧ ((u1 60 ((((15 : Int) * (l + (1 : Int))) + a) + r)) < (1000000000 : Int) → (zI (v1 + (u1 60 ((((15 : Int) * (l + (1 : Int))) + a) + r))) ∧ ((b ≤ (v1 + (u1 60 ((((15 : Int) * (l + (1 : Int))) + a) + r))) → (zI (r + (1 : Int)) ∧ zRuns 133 zX0 (fun (v : Int) (u : zS) => R v u) 60 [some (.inr (.inr (9, 0))), some (.inl i), some (.inr (.inr (52, 0))), some (.inl q0), some (.inl (n9 : Int)), some (.inl p), some (.inl l), some (.inl a), some (.inl b), some (.inl (r + (1 : Int))), none, none] [] u1)) ∧ ((v1 + (u1 60 ((((15 : Int) * (l + (1 : Int))) + a) + r))) < b → (zI (v1 + (u1 60 ((((15 : Int) * (l + (1 : Int))) + a) + r))) ∧ (zI (r + (1 : Int)) ∧ zRuns 133 zX0 (fun (v : Int) (u : zS) => R v u) 60 [some (.inr (.inr (9, 0))), some (.inl i), some (.inr (.inr (52, 0))), some (.inl q0), some (.inl (n9 : Int)), some (.inl p), some (.inl l), some (.inl a), some (.inl (v1 + (u1 60 ((((15 : Int) * (l + (1 : Int))) + a) + r)))), some (.inl (r + (1 : Int))), none, none] [] u1))))))))))))))))))))))))))
    have e42 : t 42 = σ 42 := hfr 42 (by decide)
    have e43 : t 43 = σ 43 := hfr 43 (by decide)
    have e45 : t 45 = σ 45 := hfr 45 (by decide)
    have e47 : t 47 = σ 47 := hfr 47 (by decide)
    have e45i : t 45 i = σ 45 i := by rw [e45]
    have eC : t 52 = σ 52 := hfr 52 (by decide)
    have hwk : l < n9 → 0 ≤ w l.toNat ∧ w l.toNat < 26 ∧ t 52 (q0 + l) = w l.toNat := fun q => by
      have h9 := hw l.toNat (by omega)
      exact ⟨h9.1, h9.2, by rw [eC]; exact hwl.2.2 l hl.1 q⟩
    have hrr : r ≤ 3 → a + r ≤ p → l < n9 → (-1 ≤ f a r (w l.toNat) ∧ f a r (w l.toNat) ≤ 100 ∧ zmc t (w l.toNat) (t 45 i + a) r = if f a r (w l.toNat) < 0 then 1000000000 else f a r (w l.toNat)) ∧ t 60 (15 * (l + 1) + a + r) = zsp f w n9 p 1000000000 (n9 - (l + 1)).toNat (a + r) ∧ 0 ≤ t 60 (15 * (l + 1) + a + r) ∧ t 60 (15 * (l + 1) + a + r) ≤ 1000000000 ∧ (t 60 (15 * (l + 1) + a + r) = 1000000000 ∨ t 60 (15 * (l + 1) + a + r) ≤ 2000) := fun q1 q2 q3 => by
      have x0 := hwk q3
      have x1 := hfm a r (w l.toNat) ha.1 r0.1 q1 q2 x0.1 x0.2.1
      have x2 := hA (l + 1) (a + r) (by omega) (by omega) (by omega)
      rw [show 15 * (l + 1) + (a + r) = 15 * (l + 1) + a + r by omega] at x2
      have x3 := zsp_b (f := f) (w := w) (m := n9) (p := p) (N := 1000000000) (M := 1000000000) (fun a k l a0 k0 k1 ak l0 l1 => (hfm a k l a0 k0 k1 ak l0 l1).2.2) hw (by decide) (by decide) hn12 (n9 - (l + 1)).toNat (a + r) (by omega) (by omega)
      rw [← x2] at x3
      exact ⟨⟨x1.2.1, x1.2.2, by rw [e45, zmc_fr e42 e43 e47]; exact x1.1⟩, x2, by omega, by omega, by omega⟩
    refine ⟨?_, ?_⟩
    · intro h1
      refine ⟨by (first | exact ⟨by omega, by omega⟩ | (have q9 := hrr (by omega) (by omega) (by omega); exact ⟨by omega, by omega⟩)), ?_⟩
      refine ⟨by (first | exact ⟨by omega, by omega⟩ | (have q9 := hrr (by omega) (by omega) (by omega); exact ⟨by omega, by omega⟩)), ?_⟩
      refine ⟨by (first | exact ⟨by omega, by omega⟩ | (exfalso; omega)), ?_⟩
      refine ⟨by (first | exact ⟨by omega, by omega⟩ | (have q9 := hrr (by omega) (by omega) (by omega); exact ⟨by omega, by omega⟩)), ?_⟩
      refine K _ (hfr.up (c := 60) (by decide)) (fun x y q y0 y1 => ?_)
      by_cases g : x = l ∧ y = a
      · rw [zup_at, if_pos (by omega), g.1, g.2]
        rcases hb with ⟨g1, g2⟩ | ⟨g1, g2⟩
        · rw [g2, zsp_k hl.1 g1]
          by_cases g4 : r = 4
          · rw [g4]; rfl
          · exact (zm3_out (j := 3) (i := (r - 1).toNat) (by omega) (by omega)).symm
        · rw [g2, g1, show ((n9 : Int) - (n9 : Int)).toNat = 0 by omega]
          rfl
      · rw [zup_at, if_neg (by omega)]
        exact hA x y (by omega) y0 y1
    · intro h2
      refine ⟨?_, ?_⟩
      · intro h3
        refine ⟨by (first | exact ⟨by omega, by omega⟩ | (have q9 := hrr (by omega) (by omega) (by omega); exact ⟨by omega, by omega⟩)), ?_⟩
        refine ⟨by (first | exact ⟨by omega, by omega⟩ | (have q9 := hrr (by omega) (by omega) (by omega); exact ⟨by omega, by omega⟩)), ?_⟩
        refine ⟨by (first | exact ⟨by omega, by omega⟩ | (exfalso; omega)), ?_⟩
        refine ⟨by (first | exact ⟨by omega, by omega⟩ | (have q9 := hrr (by omega) (by omega) (by omega); exact ⟨by omega, by omega⟩)), ?_⟩
        refine K _ (hfr.up (c := 60) (by decide)) (fun x y q y0 y1 => ?_)
        by_cases g : x = l ∧ y = a
        · rw [zup_at, if_pos (by omega), g.1, g.2]
          rcases hb with ⟨g1, g2⟩ | ⟨g1, g2⟩
          · rw [g2, zsp_k hl.1 g1]
            by_cases g4 : r = 4
            · rw [g4]; rfl
            · exact (zm3_out (j := 3) (i := (r - 1).toNat) (by omega) (by omega)).symm
          · rw [g2, g1, show ((n9 : Int) - (n9 : Int)).toNat = 0 by omega]
            rfl
        · rw [zup_at, if_neg (by omega)]
          exact hA x y (by omega) y0 y1
      · intro h4
        refine ⟨by (first | exact ⟨by omega, by omega⟩ | (have q9 := hrr (by omega) (by omega) (by omega); exact ⟨by omega, by omega⟩)), ?_⟩
        refine ⟨?_, ?_⟩
        · intro h5
          refine ⟨by (first | exact ⟨by omega, by omega⟩ | (have q9 := hrr (by omega) (by omega) (by omega); exact ⟨by omega, by omega⟩)), ?_⟩
          refine ⟨by (first | exact ⟨by omega, by omega⟩ | (have q9 := hrr (by omega) (by omega) (by omega); exact ⟨by omega, by omega⟩)), ?_⟩
          refine ⟨by (first | exact ⟨by omega, by omega⟩ | (exfalso; omega)), ?_⟩
          refine ⟨by (first | exact ⟨by omega, by omega⟩ | (have q9 := hrr (by omega) (by omega) (by omega); exact ⟨by omega, by omega⟩)), ?_⟩
          refine K _ (hfr.up (c := 60) (by decide)) (fun x y q y0 y1 => ?_)
          by_cases g : x = l ∧ y = a
          · rw [zup_at, if_pos (by omega), g.1, g.2]
            rcases hb with ⟨g1, g2⟩ | ⟨g1, g2⟩
            · rw [g2, zsp_k hl.1 g1]
              by_cases g4 : r = 4
              · rw [g4]; rfl
              · exact (zm3_out (j := 3) (i := (r - 1).toNat) (by omega) (by omega)).symm
            · rw [g2, g1, show ((n9 : Int) - (n9 : Int)).toNat = 0 by omega]
              rfl
          · rw [zup_at, if_neg (by omega)]
            exact hA x y (by omega) y0 y1
        · intro h6
          refine ⟨by (first | exact ⟨by omega, by omega⟩ | (have q9 := hrr (by omega) (by omega) (by omega); exact ⟨by omega, by omega⟩)), ?_⟩
          refine ⟨by (first | exact ⟨by omega, by omega⟩ | (exfalso; omega)), ?_⟩
          refine ⟨by (first | exact ⟨by omega, by omega⟩ | (exfalso; omega)), ?_⟩
          refine ⟨by (first | exact ⟨by omega, by omega⟩ | (have q9 := hrr (by omega) (by omega) (by omega); exact ⟨by omega, by omega⟩)), ?_⟩
          rw [(hwk (by omega)).2.2]
          refine ⟨_, am_X9_cost (by rw [e45]; omega) (by omega) (by have h9 := hwk (by omega); exact ⟨h9.1, h9.2.1⟩) (fun j a0 a1 => by rw [e42]; rw [e45] at a0 a1; exact hs j (by omega) (by omega)) (by rw [e47]; exact hc47), ?_⟩
          intro v1 u1 hv1
          rintro ⟨rfl, ev1⟩
          obtain ⟨hv1a, hv1b⟩ := hv1
          rw [(hrr (by omega) (by omega) (by omega)).1.2.2] at ev1
          refine ⟨by (first | exact ⟨by omega, by omega⟩ | (have q9 := hrr (by omega) (by omega) (by omega); exact ⟨by omega, by omega⟩)), ?_⟩
          refine ⟨by (first | exact ⟨by omega, by omega⟩ | (have q9 := hrr (by omega) (by omega) (by omega); exact ⟨by omega, by omega⟩)), ?_⟩
          refine ⟨by (first | exact ⟨by omega, by omega⟩ | (have q9 := hrr (by omega) (by omega) (by omega); exact ⟨by omega, by omega⟩)), ?_⟩
          refine ⟨by (first | exact ⟨by omega, by omega⟩ | (have q9 := hrr (by omega) (by omega) (by omega); exact ⟨by omega, by omega⟩)), ?_⟩
          refine ⟨by (first | exact ⟨by omega, by omega⟩ | (exfalso; omega)), ?_⟩
          refine ⟨?_, ?_⟩
          · intro h7
            refine ⟨by (first | exact ⟨by omega, by omega⟩ | (have q9 := hrr (by omega) (by omega) (by omega); exact ⟨by omega, by omega⟩)), ?_⟩
            have q9 := hrr (by omega) (by omega) (by omega)
            have hbb : b = zm3 (zrg f w n9 p 1000000000 l a) 1000000000 p a (r - 1).toNat := by
              rcases hb with h9 | h9
              · exact h9.2
              · omega
            have eg : zm3 (zrg f w n9 p 1000000000 l a) 1000000000 p a r.toNat = b := by
              rw [zm3_s (k := r) (by omega) (by omega), ← hbb]
              unfold zrg zcn1
              rw [← q9.2.1]
              have hble := zm3_le (g := zrg f w n9 p 1000000000 l a) (N := 1000000000) (p := p) (a := a) (j := (r - 1).toNat)
              rw [← hbb] at hble
              split <;> split at ev1 <;> omega
            exact ih (r + 1) _ (by omega) ⟨by omega, by omega⟩ (Or.inl ⟨by omega, by rw [show r + 1 - 1 = r by omega]; exact eg.symm⟩)
          · intro h8
            refine ⟨?_, ?_⟩
            · intro h9
              refine ⟨by (first | exact ⟨by omega, by omega⟩ | (have q9 := hrr (by omega) (by omega) (by omega); exact ⟨by omega, by omega⟩)), ?_⟩
              have q9 := hrr (by omega) (by omega) (by omega)
              have hbb : b = zm3 (zrg f w n9 p 1000000000 l a) 1000000000 p a (r - 1).toNat := by
                rcases hb with h9 | h9
                · exact h9.2
                · omega
              have eg : zm3 (zrg f w n9 p 1000000000 l a) 1000000000 p a r.toNat = b := by
                rw [zm3_s (k := r) (by omega) (by omega), ← hbb]
                unfold zrg zcn1
                rw [← q9.2.1]
                have hble := zm3_le (g := zrg f w n9 p 1000000000 l a) (N := 1000000000) (p := p) (a := a) (j := (r - 1).toNat)
                rw [← hbb] at hble
                split <;> split at ev1 <;> omega
              exact ih (r + 1) _ (by omega) ⟨by omega, by omega⟩ (Or.inl ⟨by omega, by rw [show r + 1 - 1 = r by omega]; exact eg.symm⟩)
            · intro h10
              refine ⟨by (first | exact ⟨by omega, by omega⟩ | (have q9 := hrr (by omega) (by omega) (by omega); exact ⟨by omega, by omega⟩)), ?_⟩
              refine ⟨?_, ?_⟩
              · intro h11
                refine ⟨by (first | exact ⟨by omega, by omega⟩ | (have q9 := hrr (by omega) (by omega) (by omega); exact ⟨by omega, by omega⟩)), ?_⟩
                have q9 := hrr (by omega) (by omega) (by omega)
                have hbb : b = zm3 (zrg f w n9 p 1000000000 l a) 1000000000 p a (r - 1).toNat := by
                  rcases hb with h9 | h9
                  · exact h9.2
                  · omega
                have eg : zm3 (zrg f w n9 p 1000000000 l a) 1000000000 p a r.toNat = b := by
                  rw [zm3_s (k := r) (by omega) (by omega), ← hbb]
                  unfold zrg zcn1
                  rw [← q9.2.1]
                  have hble := zm3_le (g := zrg f w n9 p 1000000000 l a) (N := 1000000000) (p := p) (a := a) (j := (r - 1).toNat)
                  rw [← hbb] at hble
                  split <;> split at ev1 <;> omega
                exact ih (r + 1) _ (by omega) ⟨by omega, by omega⟩ (Or.inl ⟨by omega, by rw [show r + 1 - 1 = r by omega]; exact eg.symm⟩)
              · intro h12
                refine ⟨by (first | exact ⟨by omega, by omega⟩ | (have q9 := hrr (by omega) (by omega) (by omega); exact ⟨by omega, by omega⟩)), ?_⟩
                refine ⟨by (first | exact ⟨by omega, by omega⟩ | (have q9 := hrr (by omega) (by omega) (by omega); exact ⟨by omega, by omega⟩)), ?_⟩
                have q9 := hrr (by omega) (by omega) (by omega)
                have hbb : b = zm3 (zrg f w n9 p 1000000000 l a) 1000000000 p a (r - 1).toNat := by
                  rcases hb with h9 | h9
                  · exact h9.2
                  · omega
                have eg : zm3 (zrg f w n9 p 1000000000 l a) 1000000000 p a r.toNat = (v1 + (t 60 ((((15 : Int) * (l + (1 : Int))) + a) + r))) := by
                  rw [zm3_s (k := r) (by omega) (by omega), ← hbb]
                  unfold zrg zcn1
                  rw [← q9.2.1]
                  have hble := zm3_le (g := zrg f w n9 p 1000000000 l a) (N := 1000000000) (p := p) (a := a) (j := (r - 1).toNat)
                  rw [← hbb] at hble
                  split <;> split at ev1 <;> omega
                exact ih (r + 1) _ (by omega) ⟨by omega, by omega⟩ (Or.inl ⟨by omega, by rw [show r + 1 - 1 = r by omega]; exact eg.symm⟩)
set_option maxRecDepth 100000 in
set_option maxHeartbeats 4000000 in
theorem lp_ms30l {l : Int} {i : Int} {q0 : Int} {p : Int} {w : Nat → Int} {n9 : Nat} {f : Int → Int → Int → Int} {σ : zS} {R : Int → zS → Prop} (hi : 0 ≤ i ∧ i < 40) (hp : 0 ≤ p ∧ p ≤ 14) (hw : zlet w n9) (hn12 : n9 ≤ 12) (hb0 : 0 ≤ σ 45 i ∧ σ 45 i + p ≤ 40) (hs : ∀ j : Int, σ 45 i ≤ j → j < σ 45 i + p → 0 ≤ σ 42 j ∧ σ 42 j < 12) (hc47 : ∀ j : Int, 0 ≤ j → j < 49660 → 0 ≤ σ 47 j ∧ σ 47 j ≤ 999) (hfm : ∀ a k l : Int, 0 ≤ a → 1 ≤ k → k ≤ 3 → a + k ≤ p → 0 ≤ l → l < 26 → zmc σ l (σ 45 i + a) k = (if f a k l < 0 then 1000000000 else f a k l) ∧ -1 ≤ f a k l ∧ f a k l ≤ 100) (hwl : 0 ≤ q0 ∧ q0 + n9 ≤ 360 ∧ ∀ j : Int, 0 ≤ j → j < n9 → σ 52 (q0 + j) = w j.toNat) (hl : 0 ≤ l ∧ l ≤ n9) (K : ∀ t : zS, zfr [60] σ t → zMA f w n9 p t (l - 1) p → zRuns 133 zX0 R 21 [some (.inr (.inr (9, 0))), some (.inl i), some (.inr (.inr (52, 0))), some (.inl q0), some (.inl (n9 : Int)), some (.inl p), some (.inl (l + -1)), none, none, none, none, none] [] t) : ∀ (n : Nat) (a : Int) (t : zS), a + 1 < (n : Int) → (-1 ≤ a ∧ a ≤ p) → (zfr [60] σ t) → (zMA f w n9 p t l a) → zRuns 133 zX0 (fun (v : Int) (u : zS) => R v u) 30 [some (.inr (.inr (9, 0))), some (.inl i), some (.inr (.inr (52, 0))), some (.inl q0), some (.inl (n9 : Int)), some (.inl p), some (.inl l), some (.inl a), none, none, none, none] [] t := by
  intro n
  induction n with
  | zero =>
    intro a t hn a0 hfr hA
    exfalso
    omega
  | succ n ih =>
    intro a t hn a0 hfr hA
    refine zwalk zmk_133 [(21, [true, true, true, true, true, true, true, false, false, false, false, false]), (30, [true, true, true, true, true, true, true, true, false, false, false, false]), (60, [true, true, true, true, true, true, true, true, true, true, false, false])] 3 ?_
    show ((a < 0 → (zI (l + (-1 : Int)) ∧ zRuns 133 zX0 (fun (v : Int) (u : zS) => R v u) 21 [some (.inr (.inr (9, 0))), some (.inl i), some (.inr (.inr (52, 0))), some (.inl q0), some (.inl (n9 : Int)), some (.inl p), some (.inl (l + (-1 : Int))), none, none, none, none, none] [] t)) ∧ (0 ≤ a → ((¬ l = (n9 : Int) → zRuns 133 zX0 (fun (v : Int) (u : zS) => R v u) 60 [some (.inr (.inr (9, 0))), some (.inl i), some (.inr (.inr (52, 0))), some (.inl q0), some (.inl (n9 : Int)), some (.inl p), some (.inl l), some (.inl a), some (.inl (1000000000 : Int)), some (.inl (1 : Int)), none, none] [] t) ∧ (l = (n9 : Int) → ((¬ a = p → zRuns 133 zX0 (fun (v : Int) (u : zS) => R v u) 60 [some (.inr (.inr (9, 0))), some (.inl i), some (.inr (.inr (52, 0))), some (.inl q0), some (.inl (n9 : Int)), some (.inl p), some (.inl l), some (.inl a), some (.inl (1000000000 : Int)), some (.inl (1 : Int)), none, none] [] t) ∧ (a = p → zRuns 133 zX0 (fun (v : Int) (u : zS) => R v u) 60 [some (.inr (.inr (9, 0))), some (.inl i), some (.inr (.inr (52, 0))), some (.inl q0), some (.inl (n9 : Int)), some (.inl p), some (.inl l), some (.inl a), some (.inl (0 : Int)), some (.inl (1 : Int)), none, none] [] t))))))
    refine ⟨?_, ?_⟩
    · intro h1
      refine ⟨by (first | exact ⟨by omega, by omega⟩ | (exfalso; omega)), ?_⟩
      obtain rfl : a = -1 := by omega
      exact K t hfr (fun x y q y0 y1 => hA x y (by omega) y0 y1)
    · intro h2
      refine ⟨?_, ?_⟩
      · intro h3
        refine lp_ms60l hi hp hw hn12 hb0 hs hc47 hfm hwl hl ⟨by omega, by omega⟩ hfr hA (fun t9 g1 g2 => ih (a + -1) t9 (by omega) ⟨by omega, by omega⟩ g1 g2) 4 1 _ (by omega) ⟨by omega, by omega⟩ ?_
        by_cases g : l = n9
        · exact Or.inr ⟨g, by first | (exfalso; omega) | (rw [if_pos (by omega)]) | (rw [if_neg (by omega)])⟩
        · exact Or.inl ⟨by omega, by first | rfl | (exfalso; omega)⟩
      · intro h4
        refine ⟨?_, ?_⟩
        · intro h5
          refine lp_ms60l hi hp hw hn12 hb0 hs hc47 hfm hwl hl ⟨by omega, by omega⟩ hfr hA (fun t9 g1 g2 => ih (a + -1) t9 (by omega) ⟨by omega, by omega⟩ g1 g2) 4 1 _ (by omega) ⟨by omega, by omega⟩ ?_
          by_cases g : l = n9
          · exact Or.inr ⟨g, by first | (exfalso; omega) | (rw [if_pos (by omega)]) | (rw [if_neg (by omega)])⟩
          · exact Or.inl ⟨by omega, by first | rfl | (exfalso; omega)⟩
        · intro h6
          refine lp_ms60l hi hp hw hn12 hb0 hs hc47 hfm hwl hl ⟨by omega, by omega⟩ hfr hA (fun t9 g1 g2 => ih (a + -1) t9 (by omega) ⟨by omega, by omega⟩ g1 g2) 4 1 _ (by omega) ⟨by omega, by omega⟩ ?_
          by_cases g : l = n9
          · exact Or.inr ⟨g, by first | (exfalso; omega) | (rw [if_pos (by omega)]) | (rw [if_neg (by omega)])⟩
          · exact Or.inl ⟨by omega, by first | rfl | (exfalso; omega)⟩
set_option maxRecDepth 100000 in
set_option maxHeartbeats 4000000 in
theorem lp_ms21l {i : Int} {q0 : Int} {p : Int} {w : Nat → Int} {n9 : Nat} {f : Int → Int → Int → Int} {σ : zS} (hi : 0 ≤ i ∧ i < 40) (hp : 0 ≤ p ∧ p ≤ 14) (hw : zlet w n9) (hn12 : n9 ≤ 12) (hb0 : 0 ≤ σ 45 i ∧ σ 45 i + p ≤ 40) (hs : ∀ j : Int, σ 45 i ≤ j → j < σ 45 i + p → 0 ≤ σ 42 j ∧ σ 42 j < 12) (hc47 : ∀ j : Int, 0 ≤ j → j < 49660 → 0 ≤ σ 47 j ∧ σ 47 j ≤ 999) (hfm : ∀ a k l : Int, 0 ≤ a → 1 ≤ k → k ≤ 3 → a + k ≤ p → 0 ≤ l → l < 26 → zmc σ l (σ 45 i + a) k = (if f a k l < 0 then 1000000000 else f a k l) ∧ -1 ≤ f a k l ∧ f a k l ≤ 100) (hwl : 0 ≤ q0 ∧ q0 + n9 ≤ 360 ∧ ∀ j : Int, 0 ≤ j → j < n9 → σ 52 (q0 + j) = w j.toNat) : ∀ (n : Nat) (l : Int) (t : zS), l + 1 < (n : Int) → (-1 ≤ l ∧ l ≤ n9) → (zfr [60] σ t) → (zMA f w n9 p t l p) → zRuns 133 zX0 (fun (v : Int) (u : zS) => zfr [60] σ u ∧ (∀ x y : Int, 0 ≤ x → x ≤ n9 → 0 ≤ y → y ≤ p → u 60 (15 * x + y) = zsp f w n9 p 1000000000 (n9 - x).toNat y) ∧ v = zsp f w n9 p 1000000000 n9 0) 21 [some (.inr (.inr (9, 0))), some (.inl i), some (.inr (.inr (52, 0))), some (.inl q0), some (.inl (n9 : Int)), some (.inl p), some (.inl l), none, none, none, none, none] [] t := by
  intro n
  induction n with
  | zero =>
    intro l t hn l0 hfr hA
    exfalso
    omega
  | succ n ih =>
    intro l t hn l0 hfr hA
    refine zwalk zmk_133 [(21, [true, true, true, true, true, true, true, false, false, false, false, false]), (30, [true, true, true, true, true, true, true, true, false, false, false, false]), (60, [true, true, true, true, true, true, true, true, true, true, false, false])] 3 ?_
    show ((l < 0 → ((0 ≤ (0 : Int) ∧ (0 : Int) < (195 : Int)) ∧ (zfr [60] σ t ∧ (∀ x y : Int, 0 ≤ x → x ≤ n9 → 0 ≤ y → y ≤ p → t 60 (15 * x + y) = zsp f w n9 p 1000000000 (n9 - x).toNat y) ∧ (t 60 (0 : Int)) = zsp f w n9 p 1000000000 n9 0))) ∧ (0 ≤ l → zRuns 133 zX0 (fun (v : Int) (u : zS) => zfr [60] σ u ∧ (∀ x y : Int, 0 ≤ x → x ≤ n9 → 0 ≤ y → y ≤ p → u 60 (15 * x + y) = zsp f w n9 p 1000000000 (n9 - x).toNat y) ∧ v = zsp f w n9 p 1000000000 n9 0) 30 [some (.inr (.inr (9, 0))), some (.inl i), some (.inr (.inr (52, 0))), some (.inl q0), some (.inl (n9 : Int)), some (.inl p), some (.inl l), some (.inl p), none, none, none, none] [] t))
    refine ⟨?_, ?_⟩
    · intro h1
      refine ⟨by (first | exact ⟨by omega, by omega⟩ | (exfalso; omega)), ?_⟩
      obtain rfl : l = -1 := by omega
      have h00 := hA 0 0 (by omega) (by omega) (by omega)
      rw [show ((n9 : Int) - 0).toNat = n9 by omega, show 15 * (0 : Int) + 0 = 0 by omega] at h00
      exact ⟨hfr, fun x y x0 x1 y0 y1 => hA x y (by omega) y0 y1, h00⟩
    · intro h2
      exact lp_ms30l hi hp hw hn12 hb0 hs hc47 hfm hwl ⟨by omega, by omega⟩ (fun t9 g1 g2 => ih (l + -1) t9 (by omega) ⟨by omega, by omega⟩ g1 g2) (p.toNat + 2) p t (by omega) ⟨by omega, by omega⟩ hfr hA
set_option maxRecDepth 100000 in
set_option maxHeartbeats 4000000 in
theorem am_X9_spelll {σ : zS} {i : Int} {q0 : Int} {p : Int} {w : Nat → Int} {n9 : Nat} {f : Int → Int → Int → Int} (hi : 0 ≤ i ∧ i < 40) (hp : 0 ≤ p) (hw : zlet w n9) (hn12 : 1 ≤ n9 ∧ n9 ≤ 12) (hb0 : 0 ≤ σ 45 i ∧ σ 45 i + p ≤ 40 ∧ σ 45 (i + 1) = σ 45 i + p) (hs : ∀ j : Int, σ 45 i ≤ j → j < σ 45 i + p → 0 ≤ σ 42 j ∧ σ 42 j < 12) (hc47 : ∀ j : Int, 0 ≤ j → j < 49660 → 0 ≤ σ 47 j ∧ σ 47 j ≤ 999) (hfm : p ≤ 14 → ∀ a k l : Int, 0 ≤ a → 1 ≤ k → k ≤ 3 → a + k ≤ p → 0 ≤ l → l < 26 → zmc σ l (σ 45 i + a) k = (if f a k l < 0 then 1000000000 else f a k l) ∧ -1 ≤ f a k l ∧ f a k l ≤ 100) (hwl : 0 ≤ q0 ∧ q0 + n9 ≤ 360 ∧ ∀ j : Int, 0 ≤ j → j < n9 → σ 52 (q0 + j) = w j.toNat) : zAM 133 [.inr (.inr (9, 0)), .inl i, .inr (.inr (52, 0)), .inl q0, .inl (n9 : Int)] σ (fun (v : Int) (u : zS) => zfr [60] σ u ∧ (p ≤ 14 → ∀ x y : Int, 0 ≤ x → x ≤ n9 → 0 ≤ y → y ≤ p → u 60 (15 * x + y) = zsp f w n9 p 1000000000 (n9 - x).toNat y) ∧ v = zsp f w n9 (if 14 < p then 0 else p) 1000000000 n9 0) := by
  refine zam (by decide) (Nat.le_of_ble_eq_true rfl) ?_
  refine zwalk zmk_133 [(21, [true, true, true, true, true, true, true, false, false, false, false, false]), (30, [true, true, true, true, true, true, true, true, false, false, false, false]), (60, [true, true, true, true, true, true, true, true, true, true, false, false])] 3 ?_
  show (∃ Rc : Int → zS → Prop, zAM 117 [.inr (.inr (9, 0)), .inl i] σ Rc ∧ ∀ (v1 : Int) (u1 : zS), zI v1 → Rc v1 u1 → ((v1 ≤ (14 : Int) → zRuns 133 zX0 (fun (v : Int) (u : zS) => zfr [60] σ u ∧ (p ≤ 14 → ∀ x y : Int, 0 ≤ x → x ≤ n9 → 0 ≤ y → y ≤ p → u 60 (15 * x + y) = zsp f w n9 p 1000000000 (n9 - x).toNat y) ∧ v = zsp f w n9 (if 14 < p then 0 else p) 1000000000 n9 0) 21 [some (.inr (.inr (9, 0))), some (.inl i), some (.inr (.inr (52, 0))), some (.inl q0), some (.inl (n9 : Int)), some (.inl v1), some (.inl (n9 : Int)), none, none, none, none, none] [] u1) ∧ ((14 : Int) < v1 → (zfr [60] σ u1 ∧ (p ≤ 14 → ∀ x y : Int, 0 ≤ x → x ≤ n9 → 0 ≤ y → y ≤ p → u1 60 (15 * x + y) = zsp f w n9 p 1000000000 (n9 - x).toNat y) ∧ (1000000000 : Int) = zsp f w n9 (if 14 < p then 0 else p) 1000000000 n9 0))))
  refine ⟨_, am_X9_many (hi) (by omega) (by omega), ?_⟩
  intro v1 u1 hv1
  rintro ⟨rfl, ev1⟩
  obtain ⟨hv1a, hv1b⟩ := hv1
  have ep : v1 = p := by omega
  subst ep
  refine ⟨?_, ?_⟩
  · intro h1
    refine (lp_ms21l hi ⟨hp, by omega⟩ hw hn12.2 ⟨hb0.1, hb0.2.1⟩ hs hc47 (hfm (by omega)) hwl (n9 + 2) _ σ (by omega) ⟨by omega, by omega⟩ zfr.rf (fun x y q y0 y1 => by omega)).mono (fun v u q => ⟨q.1, fun _ => q.2.1, ?_⟩)
    rw [if_neg (by omega)]
    exact q.2.2
  · intro h2
    refine ⟨zfr.rf, fun q => by omega, ?_⟩
    rw [if_pos (by omega)]
    obtain ⟨d, rfl⟩ : ∃ d : Nat, n9 = d + 1 := ⟨n9 - 1, by omega⟩
    exact zsp_0.symm
set_option maxRecDepth 100000 in
set_option maxHeartbeats 4000000 in
theorem lp_ms60w {l : Int} {a : Int} {i : Int} {q0 : Int} {p : Int} {w : Nat → Int} {n9 : Nat} {f : Int → Int → Int → Int} {σ : zS} {t : zS} {R : Int → zS → Prop} (hi : 0 ≤ i ∧ i < 40) (hp : 0 ≤ p ∧ p ≤ 14) (hw : zlet w n9) (hn12 : n9 ≤ 12) (hb0 : 0 ≤ σ 45 i ∧ σ 45 i + p ≤ 40) (hs : ∀ j : Int, σ 45 i ≤ j → j < σ 45 i + p → 0 ≤ σ 42 j ∧ σ 42 j < 12) (hc47 : ∀ j : Int, 0 ≤ j → j < 49660 → 0 ≤ σ 47 j ∧ σ 47 j ≤ 999) (hfm : ∀ a k l : Int, 0 ≤ a → 1 ≤ k → k ≤ 3 → a + k ≤ p → 0 ≤ l → l < 26 → zmc σ l (σ 45 i + a) k = (if f a k l < 0 then 1000000000 else f a k l) ∧ -1 ≤ f a k l ∧ f a k l ≤ 100) (hwl : 0 ≤ q0 ∧ q0 + n9 ≤ 12 ∧ ∀ j : Int, 0 ≤ j → j < n9 → σ 53 (q0 + j) = w j.toNat) (hl : 0 ≤ l ∧ l ≤ n9) (ha : 0 ≤ a ∧ a ≤ p) (hfr : zfr [60] σ t) (hA : zMA f w n9 p t l a) (K : ∀ t : zS, zfr [60] σ t → zMA f w n9 p t l (a - 1) → zRuns 133 zX0 R 30 [some (.inr (.inr (9, 0))), some (.inl i), some (.inr (.inr (53, 0))), some (.inl q0), some (.inl (n9 : Int)), some (.inl p), some (.inl l), some (.inl (a + -1)), none, none, none, none] [] t) : ∀ (n : Nat) (r : Int) (b : Int), 4 - r < (n : Int) → (1 ≤ r ∧ r ≤ 4) → ((l < n9 ∧ b = zm3 (zrg f w n9 p 1000000000 l a) 1000000000 p a (r - 1).toNat) ∨ (l = n9 ∧ b = if a = p then 0 else 1000000000)) → zRuns 133 zX0 (fun (v : Int) (u : zS) => R v u) 60 [some (.inr (.inr (9, 0))), some (.inl i), some (.inr (.inr (53, 0))), some (.inl q0), some (.inl (n9 : Int)), some (.inl p), some (.inl l), some (.inl a), some (.inl b), some (.inl r), none, none] [] t := by
  intro n
  induction n with
  | zero =>
    intro r b hn r0 hb
    exfalso
    omega
  | succ n ih =>
    intro r b hn r0 hb
    refine zwalk zmk_133 [(21, [true, true, true, true, true, true, true, false, false, false, false, false]), (30, [true, true, true, true, true, true, true, true, false, false, false, false]), (60, [true, true, true, true, true, true, true, true, true, true, false, false])] 3 ?_
    show (((4 : Int) ≤ r → (zI ((15 : Int) * l) ∧ (zI (((15 : Int) * l) + a) ∧ ((0 ≤ (((15 : Int) * l) + a) ∧ (((15 : Int) * l) + a) < (195 : Int)) ∧ (zI (a + (-1 : Int)) ∧ zRuns 133 zX0 (fun (v : Int) (u : zS) => R v u) 30 [some (.inr (.inr (9, 0))), some (.inl i), some (.inr (.inr (53, 0))), some (.inl q0), some (.inl (n9 : Int)), some (.inl p), some (.inl l), some (.inl (a + (-1 : Int))), none, none, none, none] [] (zup t 60 (((15 : Int) * l) + a) b)))))) ∧ (r < (4 : Int) → (((n9 : Int) ≤ l → (zI ((15 : Int) * l) ∧ (zI (((15 : Int) * l) + a) ∧ ((0 ≤ (((15 : Int) * l) + a) ∧ (((15 : Int) * l) + a) < (195 : Int)) ∧ (zI (a + (-1 : Int)) ∧ zRuns 133 zX0 (fun (v : Int) (u : zS) => R v u) 30 [some (.inr (.inr (9, 0))), some (.inl i), some (.inr (.inr (53, 0))), some (.inl q0), some (.inl (n9 : Int)), some (.inl p), some (.inl l), some (.inl (a + (-1 : Int))), none, none, none, none] [] (zup t 60 (((15 : Int) * l) + a) b)))))) ∧ (l < (n9 : Int) → (zI (a + r) ∧ ((p < (a + r) → (zI ((15 : Int) * l) ∧ (zI (((15 : Int) * l) + a) ∧ ((0 ≤ (((15 : Int) * l) + a) ∧ (((15 : Int) * l) + a) < (195 : Int)) ∧ (zI (a + (-1 : Int)) ∧ zRuns 133 zX0 (fun (v : Int) (u : zS) => R v u) 30 [some (.inr (.inr (9, 0))), some (.inl i), some (.inr (.inr (53, 0))), some (.inl q0), some (.inl (n9 : Int)), some (.inl p), some (.inl l), some (.inl (a + (-1 : Int))), none, none, none, none] [] (zup t 60 (((15 : Int) * l) + a) b)))))) ∧ ((a + r) ≤ p → (zI (q0 + l) ∧ ((0 ≤ (q0 + l) ∧ (q0 + l) < (12 : Int)) ∧ ((0 ≤ i ∧ i < (41 : Int)) ∧ (zI ((t 45 i) + a) ∧ (∃ Rc : Int → zS → Prop, zAM 132 [.inr (.inr (9, 0)), .inl (t 53 (q0 + l)), .inl ((t 45 i) + a), .inl r] t Rc ∧ ∀ (v1 : Int) (u1 : zS), zI v1 → Rc v1 u1 → (zI (l + (1 : Int)) ∧ (zI ((15 : Int) * (l + (1 : Int))) ∧ (zI (((15 : Int) * (l + (1 : Int))) + a) ∧ (zI ((((15 : Int) * (l + (1 : Int))) + a) + r) ∧ ((0 ≤ ((((15 : Int) * (l + (1 : Int))) + a) + r) ∧ ((((15 : Int) * (l + (1 : Int))) + a) + r) < (195 : Int)) ∧ (((1000000000 : Int) ≤ v1 → (zI (r + (1 : Int)) ∧ zRuns 133 zX0 (fun (v : Int) (u : zS) => R v u) 60 [some (.inr (.inr (9, 0))), some (.inl i), some (.inr (.inr (53, 0))), some (.inl q0), some (.inl (n9 : Int)), some (.inl p), some (.inl l), some (.inl a), some (.inl b), some (.inl (r + (1 : Int))), none, none] [] u1)) ∧ (v1 < (1000000000 : Int) → (((1000000000 : Int) ≤ (u1 60 ((((15 : Int) * (l + (1 : Int))) + a) + r)) → (zI (r + (1 : Int)) ∧ zRuns 133 zX0 (fun (v : Int) (u : zS) => R v u) 60 [some (.inr (.inr (9, 0))), some (.inl i), some (.inr (.inr (53, 0))), some (.inl q0), some (.inl (n9 : Int)), some (.inl p), some (.inl l), some (.inl a), some (.inl b), some (.inl (r + (1 : Int))), none, none] [] u1)) ∧ ((u1 60 ((((15 : Int) * (l + (1 : Int))) + a) + r)) < (1000000000 : Int) → (zI (v1 + (u1 60 ((((15 : Int) * (l + (1 : Int))) + a) + r))) ∧ ((b ≤ (v1 + (u1 60 ((((15 : Int) * (l + (1 : Int))) + a) + r))) → (zI (r + (1 : Int)) ∧ zRuns 133 zX0 (fun (v : Int) (u : zS) => R v u) 60 [some (.inr (.inr (9, 0))), some (.inl i), some (.inr (.inr (53, 0))), some (.inl q0), some (.inl (n9 : Int)), some (.inl p), some (.inl l), some (.inl a), some (.inl b), some (.inl (r + (1 : Int))), none, none] [] u1)) ∧ ((v1 + (u1 60 ((((15 : Int) * (l + (1 : Int))) + a) + r))) < b → (zI (v1 + (u1 60 ((((15 : Int) * (l + (1 : Int))) + a) + r))) ∧ (zI (r + (1 : Int)) ∧ zRuns 133 zX0 (fun (v : Int) (u : zS) => R v u) 60 [some (.inr (.inr (9, 0))), some (.inl i), some (.inr (.inr (53, 0))), some (.inl q0), some (.inl (n9 : Int)), some (.inl p), some (.inl l), some (.inl a), some (.inl (v1 + (u1 60 ((((15 : Int) * (l + (1 : Int))) + a) + r)))), some (.inl (r + (1 : Int))), none, none] [] u1))))))))))))))))))))))))))
    have e42 : t 42 = σ 42 := hfr 42 (by decide)
    have e43 : t 43 = σ 43 := hfr 43 (by decide)
    have e45 : t 45 = σ 45 := hfr 45 (by decide)
    have e47 : t 47 = σ 47 := hfr 47 (by decide)
    have e45i : t 45 i = σ 45 i := by rw [e45]
    have eC : t 53 = σ 53 := hfr 53 (by decide)
    have hwk : l < n9 → 0 ≤ w l.toNat ∧ w l.toNat < 26 ∧ t 53 (q0 + l) = w l.toNat := fun q => by
      have h9 := hw l.toNat (by omega)
      exact ⟨h9.1, h9.2, by rw [eC]; exact hwl.2.2 l hl.1 q⟩
    have hrr : r ≤ 3 → a + r ≤ p → l < n9 → (-1 ≤ f a r (w l.toNat) ∧ f a r (w l.toNat) ≤ 100 ∧ zmc t (w l.toNat) (t 45 i + a) r = if f a r (w l.toNat) < 0 then 1000000000 else f a r (w l.toNat)) ∧ t 60 (15 * (l + 1) + a + r) = zsp f w n9 p 1000000000 (n9 - (l + 1)).toNat (a + r) ∧ 0 ≤ t 60 (15 * (l + 1) + a + r) ∧ t 60 (15 * (l + 1) + a + r) ≤ 1000000000 ∧ (t 60 (15 * (l + 1) + a + r) = 1000000000 ∨ t 60 (15 * (l + 1) + a + r) ≤ 2000) := fun q1 q2 q3 => by
      have x0 := hwk q3
      have x1 := hfm a r (w l.toNat) ha.1 r0.1 q1 q2 x0.1 x0.2.1
      have x2 := hA (l + 1) (a + r) (by omega) (by omega) (by omega)
      rw [show 15 * (l + 1) + (a + r) = 15 * (l + 1) + a + r by omega] at x2
      have x3 := zsp_b (f := f) (w := w) (m := n9) (p := p) (N := 1000000000) (M := 1000000000) (fun a k l a0 k0 k1 ak l0 l1 => (hfm a k l a0 k0 k1 ak l0 l1).2.2) hw (by decide) (by decide) hn12 (n9 - (l + 1)).toNat (a + r) (by omega) (by omega)
      rw [← x2] at x3
      exact ⟨⟨x1.2.1, x1.2.2, by rw [e45, zmc_fr e42 e43 e47]; exact x1.1⟩, x2, by omega, by omega, by omega⟩
    refine ⟨?_, ?_⟩
    · intro h1
      refine ⟨by (first | exact ⟨by omega, by omega⟩ | (have q9 := hrr (by omega) (by omega) (by omega); exact ⟨by omega, by omega⟩)), ?_⟩
      refine ⟨by (first | exact ⟨by omega, by omega⟩ | (have q9 := hrr (by omega) (by omega) (by omega); exact ⟨by omega, by omega⟩)), ?_⟩
      refine ⟨by (first | exact ⟨by omega, by omega⟩ | (exfalso; omega)), ?_⟩
      refine ⟨by (first | exact ⟨by omega, by omega⟩ | (have q9 := hrr (by omega) (by omega) (by omega); exact ⟨by omega, by omega⟩)), ?_⟩
      refine K _ (hfr.up (c := 60) (by decide)) (fun x y q y0 y1 => ?_)
      by_cases g : x = l ∧ y = a
      · rw [zup_at, if_pos (by omega), g.1, g.2]
        rcases hb with ⟨g1, g2⟩ | ⟨g1, g2⟩
        · rw [g2, zsp_k hl.1 g1]
          by_cases g4 : r = 4
          · rw [g4]; rfl
          · exact (zm3_out (j := 3) (i := (r - 1).toNat) (by omega) (by omega)).symm
        · rw [g2, g1, show ((n9 : Int) - (n9 : Int)).toNat = 0 by omega]
          rfl
      · rw [zup_at, if_neg (by omega)]
        exact hA x y (by omega) y0 y1
    · intro h2
      refine ⟨?_, ?_⟩
      · intro h3
        refine ⟨by (first | exact ⟨by omega, by omega⟩ | (have q9 := hrr (by omega) (by omega) (by omega); exact ⟨by omega, by omega⟩)), ?_⟩
        refine ⟨by (first | exact ⟨by omega, by omega⟩ | (have q9 := hrr (by omega) (by omega) (by omega); exact ⟨by omega, by omega⟩)), ?_⟩
        refine ⟨by (first | exact ⟨by omega, by omega⟩ | (exfalso; omega)), ?_⟩
        refine ⟨by (first | exact ⟨by omega, by omega⟩ | (have q9 := hrr (by omega) (by omega) (by omega); exact ⟨by omega, by omega⟩)), ?_⟩
        refine K _ (hfr.up (c := 60) (by decide)) (fun x y q y0 y1 => ?_)
        by_cases g : x = l ∧ y = a
        · rw [zup_at, if_pos (by omega), g.1, g.2]
          rcases hb with ⟨g1, g2⟩ | ⟨g1, g2⟩
          · rw [g2, zsp_k hl.1 g1]
            by_cases g4 : r = 4
            · rw [g4]; rfl
            · exact (zm3_out (j := 3) (i := (r - 1).toNat) (by omega) (by omega)).symm
          · rw [g2, g1, show ((n9 : Int) - (n9 : Int)).toNat = 0 by omega]
            rfl
        · rw [zup_at, if_neg (by omega)]
          exact hA x y (by omega) y0 y1
      · intro h4
        refine ⟨by (first | exact ⟨by omega, by omega⟩ | (have q9 := hrr (by omega) (by omega) (by omega); exact ⟨by omega, by omega⟩)), ?_⟩
        refine ⟨?_, ?_⟩
        · intro h5
          refine ⟨by (first | exact ⟨by omega, by omega⟩ | (have q9 := hrr (by omega) (by omega) (by omega); exact ⟨by omega, by omega⟩)), ?_⟩
          refine ⟨by (first | exact ⟨by omega, by omega⟩ | (have q9 := hrr (by omega) (by omega) (by omega); exact ⟨by omega, by omega⟩)), ?_⟩
          refine ⟨by (first | exact ⟨by omega, by omega⟩ | (exfalso; omega)), ?_⟩
          refine ⟨by (first | exact ⟨by omega, by omega⟩ | (have q9 := hrr (by omega) (by omega) (by omega); exact ⟨by omega, by omega⟩)), ?_⟩
          refine K _ (hfr.up (c := 60) (by decide)) (fun x y q y0 y1 => ?_)
          by_cases g : x = l ∧ y = a
          · rw [zup_at, if_pos (by omega), g.1, g.2]
            rcases hb with ⟨g1, g2⟩ | ⟨g1, g2⟩
            · rw [g2, zsp_k hl.1 g1]
              by_cases g4 : r = 4
              · rw [g4]; rfl
              · exact (zm3_out (j := 3) (i := (r - 1).toNat) (by omega) (by omega)).symm
            · rw [g2, g1, show ((n9 : Int) - (n9 : Int)).toNat = 0 by omega]
              rfl
          · rw [zup_at, if_neg (by omega)]
            exact hA x y (by omega) y0 y1
        · intro h6
          refine ⟨by (first | exact ⟨by omega, by omega⟩ | (have q9 := hrr (by omega) (by omega) (by omega); exact ⟨by omega, by omega⟩)), ?_⟩
          refine ⟨by (first | exact ⟨by omega, by omega⟩ | (exfalso; omega)), ?_⟩
          refine ⟨by (first | exact ⟨by omega, by omega⟩ | (exfalso; omega)), ?_⟩
          refine ⟨by (first | exact ⟨by omega, by omega⟩ | (have q9 := hrr (by omega) (by omega) (by omega); exact ⟨by omega, by omega⟩)), ?_⟩
          rw [(hwk (by omega)).2.2]
          refine ⟨_, am_X9_cost (by rw [e45]; omega) (by omega) (by have h9 := hwk (by omega); exact ⟨h9.1, h9.2.1⟩) (fun j a0 a1 => by rw [e42]; rw [e45] at a0 a1; exact hs j (by omega) (by omega)) (by rw [e47]; exact hc47), ?_⟩
          intro v1 u1 hv1
          rintro ⟨rfl, ev1⟩
          obtain ⟨hv1a, hv1b⟩ := hv1
          rw [(hrr (by omega) (by omega) (by omega)).1.2.2] at ev1
          refine ⟨by (first | exact ⟨by omega, by omega⟩ | (have q9 := hrr (by omega) (by omega) (by omega); exact ⟨by omega, by omega⟩)), ?_⟩
          refine ⟨by (first | exact ⟨by omega, by omega⟩ | (have q9 := hrr (by omega) (by omega) (by omega); exact ⟨by omega, by omega⟩)), ?_⟩
          refine ⟨by (first | exact ⟨by omega, by omega⟩ | (have q9 := hrr (by omega) (by omega) (by omega); exact ⟨by omega, by omega⟩)), ?_⟩
          refine ⟨by (first | exact ⟨by omega, by omega⟩ | (have q9 := hrr (by omega) (by omega) (by omega); exact ⟨by omega, by omega⟩)), ?_⟩
          refine ⟨by (first | exact ⟨by omega, by omega⟩ | (exfalso; omega)), ?_⟩
          refine ⟨?_, ?_⟩
          · intro h7
            refine ⟨by (first | exact ⟨by omega, by omega⟩ | (have q9 := hrr (by omega) (by omega) (by omega); exact ⟨by omega, by omega⟩)), ?_⟩
            have q9 := hrr (by omega) (by omega) (by omega)
            have hbb : b = zm3 (zrg f w n9 p 1000000000 l a) 1000000000 p a (r - 1).toNat := by
              rcases hb with h9 | h9
              · exact h9.2
              · omega
            have eg : zm3 (zrg f w n9 p 1000000000 l a) 1000000000 p a r.toNat = b := by
              rw [zm3_s (k := r) (by omega) (by omega), ← hbb]
              unfold zrg zcn1
              rw [← q9.2.1]
              have hble := zm3_le (g := zrg f w n9 p 1000000000 l a) (N := 1000000000) (p := p) (a := a) (j := (r - 1).toNat)
              rw [← hbb] at hble
              split <;> split at ev1 <;> omega
            exact ih (r + 1) _ (by omega) ⟨by omega, by omega⟩ (Or.inl ⟨by omega, by rw [show r + 1 - 1 = r by omega]; exact eg.symm⟩)
          · intro h8
            refine ⟨?_, ?_⟩
            · intro h9
              refine ⟨by (first | exact ⟨by omega, by omega⟩ | (have q9 := hrr (by omega) (by omega) (by omega); exact ⟨by omega, by omega⟩)), ?_⟩
              have q9 := hrr (by omega) (by omega) (by omega)
              have hbb : b = zm3 (zrg f w n9 p 1000000000 l a) 1000000000 p a (r - 1).toNat := by
                rcases hb with h9 | h9
                · exact h9.2
                · omega
              have eg : zm3 (zrg f w n9 p 1000000000 l a) 1000000000 p a r.toNat = b := by
                rw [zm3_s (k := r) (by omega) (by omega), ← hbb]
                unfold zrg zcn1
                rw [← q9.2.1]
                have hble := zm3_le (g := zrg f w n9 p 1000000000 l a) (N := 1000000000) (p := p) (a := a) (j := (r - 1).toNat)
                rw [← hbb] at hble
                split <;> split at ev1 <;> omega
              exact ih (r + 1) _ (by omega) ⟨by omega, by omega⟩ (Or.inl ⟨by omega, by rw [show r + 1 - 1 = r by omega]; exact eg.symm⟩)
            · intro h10
              refine ⟨by (first | exact ⟨by omega, by omega⟩ | (have q9 := hrr (by omega) (by omega) (by omega); exact ⟨by omega, by omega⟩)), ?_⟩
              refine ⟨?_, ?_⟩
              · intro h11
                refine ⟨by (first | exact ⟨by omega, by omega⟩ | (have q9 := hrr (by omega) (by omega) (by omega); exact ⟨by omega, by omega⟩)), ?_⟩
                have q9 := hrr (by omega) (by omega) (by omega)
                have hbb : b = zm3 (zrg f w n9 p 1000000000 l a) 1000000000 p a (r - 1).toNat := by
                  rcases hb with h9 | h9
                  · exact h9.2
                  · omega
                have eg : zm3 (zrg f w n9 p 1000000000 l a) 1000000000 p a r.toNat = b := by
                  rw [zm3_s (k := r) (by omega) (by omega), ← hbb]
                  unfold zrg zcn1
                  rw [← q9.2.1]
                  have hble := zm3_le (g := zrg f w n9 p 1000000000 l a) (N := 1000000000) (p := p) (a := a) (j := (r - 1).toNat)
                  rw [← hbb] at hble
                  split <;> split at ev1 <;> omega
                exact ih (r + 1) _ (by omega) ⟨by omega, by omega⟩ (Or.inl ⟨by omega, by rw [show r + 1 - 1 = r by omega]; exact eg.symm⟩)
              · intro h12
                refine ⟨by (first | exact ⟨by omega, by omega⟩ | (have q9 := hrr (by omega) (by omega) (by omega); exact ⟨by omega, by omega⟩)), ?_⟩
                refine ⟨by (first | exact ⟨by omega, by omega⟩ | (have q9 := hrr (by omega) (by omega) (by omega); exact ⟨by omega, by omega⟩)), ?_⟩
                have q9 := hrr (by omega) (by omega) (by omega)
                have hbb : b = zm3 (zrg f w n9 p 1000000000 l a) 1000000000 p a (r - 1).toNat := by
                  rcases hb with h9 | h9
                  · exact h9.2
                  · omega
                have eg : zm3 (zrg f w n9 p 1000000000 l a) 1000000000 p a r.toNat = (v1 + (t 60 ((((15 : Int) * (l + (1 : Int))) + a) + r))) := by
                  rw [zm3_s (k := r) (by omega) (by omega), ← hbb]
                  unfold zrg zcn1
                  rw [← q9.2.1]
                  have hble := zm3_le (g := zrg f w n9 p 1000000000 l a) (N := 1000000000) (p := p) (a := a) (j := (r - 1).toNat)
                  rw [← hbb] at hble
                  split <;> split at ev1 <;> omega
                exact ih (r + 1) _ (by omega) ⟨by omega, by omega⟩ (Or.inl ⟨by omega, by rw [show r + 1 - 1 = r by omega]; exact eg.symm⟩)
set_option maxRecDepth 100000 in
set_option maxHeartbeats 4000000 in
theorem lp_ms30w {l : Int} {i : Int} {q0 : Int} {p : Int} {w : Nat → Int} {n9 : Nat} {f : Int → Int → Int → Int} {σ : zS} {R : Int → zS → Prop} (hi : 0 ≤ i ∧ i < 40) (hp : 0 ≤ p ∧ p ≤ 14) (hw : zlet w n9) (hn12 : n9 ≤ 12) (hb0 : 0 ≤ σ 45 i ∧ σ 45 i + p ≤ 40) (hs : ∀ j : Int, σ 45 i ≤ j → j < σ 45 i + p → 0 ≤ σ 42 j ∧ σ 42 j < 12) (hc47 : ∀ j : Int, 0 ≤ j → j < 49660 → 0 ≤ σ 47 j ∧ σ 47 j ≤ 999) (hfm : ∀ a k l : Int, 0 ≤ a → 1 ≤ k → k ≤ 3 → a + k ≤ p → 0 ≤ l → l < 26 → zmc σ l (σ 45 i + a) k = (if f a k l < 0 then 1000000000 else f a k l) ∧ -1 ≤ f a k l ∧ f a k l ≤ 100) (hwl : 0 ≤ q0 ∧ q0 + n9 ≤ 12 ∧ ∀ j : Int, 0 ≤ j → j < n9 → σ 53 (q0 + j) = w j.toNat) (hl : 0 ≤ l ∧ l ≤ n9) (K : ∀ t : zS, zfr [60] σ t → zMA f w n9 p t (l - 1) p → zRuns 133 zX0 R 21 [some (.inr (.inr (9, 0))), some (.inl i), some (.inr (.inr (53, 0))), some (.inl q0), some (.inl (n9 : Int)), some (.inl p), some (.inl (l + -1)), none, none, none, none, none] [] t) : ∀ (n : Nat) (a : Int) (t : zS), a + 1 < (n : Int) → (-1 ≤ a ∧ a ≤ p) → (zfr [60] σ t) → (zMA f w n9 p t l a) → zRuns 133 zX0 (fun (v : Int) (u : zS) => R v u) 30 [some (.inr (.inr (9, 0))), some (.inl i), some (.inr (.inr (53, 0))), some (.inl q0), some (.inl (n9 : Int)), some (.inl p), some (.inl l), some (.inl a), none, none, none, none] [] t := by
  intro n
  induction n with
  | zero =>
    intro a t hn a0 hfr hA
    exfalso
    omega
  | succ n ih =>
    intro a t hn a0 hfr hA
    refine zwalk zmk_133 [(21, [true, true, true, true, true, true, true, false, false, false, false, false]), (30, [true, true, true, true, true, true, true, true, false, false, false, false]), (60, [true, true, true, true, true, true, true, true, true, true, false, false])] 3 ?_
    show ((a < 0 → (zI (l + (-1 : Int)) ∧ zRuns 133 zX0 (fun (v : Int) (u : zS) => R v u) 21 [some (.inr (.inr (9, 0))), some (.inl i), some (.inr (.inr (53, 0))), some (.inl q0), some (.inl (n9 : Int)), some (.inl p), some (.inl (l + (-1 : Int))), none, none, none, none, none] [] t)) ∧ (0 ≤ a → ((¬ l = (n9 : Int) → zRuns 133 zX0 (fun (v : Int) (u : zS) => R v u) 60 [some (.inr (.inr (9, 0))), some (.inl i), some (.inr (.inr (53, 0))), some (.inl q0), some (.inl (n9 : Int)), some (.inl p), some (.inl l), some (.inl a), some (.inl (1000000000 : Int)), some (.inl (1 : Int)), none, none] [] t) ∧ (l = (n9 : Int) → ((¬ a = p → zRuns 133 zX0 (fun (v : Int) (u : zS) => R v u) 60 [some (.inr (.inr (9, 0))), some (.inl i), some (.inr (.inr (53, 0))), some (.inl q0), some (.inl (n9 : Int)), some (.inl p), some (.inl l), some (.inl a), some (.inl (1000000000 : Int)), some (.inl (1 : Int)), none, none] [] t) ∧ (a = p → zRuns 133 zX0 (fun (v : Int) (u : zS) => R v u) 60 [some (.inr (.inr (9, 0))), some (.inl i), some (.inr (.inr (53, 0))), some (.inl q0), some (.inl (n9 : Int)), some (.inl p), some (.inl l), some (.inl a), some (.inl (0 : Int)), some (.inl (1 : Int)), none, none] [] t))))))
    refine ⟨?_, ?_⟩
    · intro h1
      refine ⟨by (first | exact ⟨by omega, by omega⟩ | (exfalso; omega)), ?_⟩
      obtain rfl : a = -1 := by omega
      exact K t hfr (fun x y q y0 y1 => hA x y (by omega) y0 y1)
    · intro h2
      refine ⟨?_, ?_⟩
      · intro h3
        refine lp_ms60w hi hp hw hn12 hb0 hs hc47 hfm hwl hl ⟨by omega, by omega⟩ hfr hA (fun t9 g1 g2 => ih (a + -1) t9 (by omega) ⟨by omega, by omega⟩ g1 g2) 4 1 _ (by omega) ⟨by omega, by omega⟩ ?_
        by_cases g : l = n9
        · exact Or.inr ⟨g, by first | (exfalso; omega) | (rw [if_pos (by omega)]) | (rw [if_neg (by omega)])⟩
        · exact Or.inl ⟨by omega, by first | rfl | (exfalso; omega)⟩
      · intro h4
        refine ⟨?_, ?_⟩
        · intro h5
          refine lp_ms60w hi hp hw hn12 hb0 hs hc47 hfm hwl hl ⟨by omega, by omega⟩ hfr hA (fun t9 g1 g2 => ih (a + -1) t9 (by omega) ⟨by omega, by omega⟩ g1 g2) 4 1 _ (by omega) ⟨by omega, by omega⟩ ?_
          by_cases g : l = n9
          · exact Or.inr ⟨g, by first | (exfalso; omega) | (rw [if_pos (by omega)]) | (rw [if_neg (by omega)])⟩
          · exact Or.inl ⟨by omega, by first | rfl | (exfalso; omega)⟩
        · intro h6
          refine lp_ms60w hi hp hw hn12 hb0 hs hc47 hfm hwl hl ⟨by omega, by omega⟩ hfr hA (fun t9 g1 g2 => ih (a + -1) t9 (by omega) ⟨by omega, by omega⟩ g1 g2) 4 1 _ (by omega) ⟨by omega, by omega⟩ ?_
          by_cases g : l = n9
          · exact Or.inr ⟨g, by first | (exfalso; omega) | (rw [if_pos (by omega)]) | (rw [if_neg (by omega)])⟩
          · exact Or.inl ⟨by omega, by first | rfl | (exfalso; omega)⟩
set_option maxRecDepth 100000 in
set_option maxHeartbeats 4000000 in
theorem lp_ms21w {i : Int} {q0 : Int} {p : Int} {w : Nat → Int} {n9 : Nat} {f : Int → Int → Int → Int} {σ : zS} (hi : 0 ≤ i ∧ i < 40) (hp : 0 ≤ p ∧ p ≤ 14) (hw : zlet w n9) (hn12 : n9 ≤ 12) (hb0 : 0 ≤ σ 45 i ∧ σ 45 i + p ≤ 40) (hs : ∀ j : Int, σ 45 i ≤ j → j < σ 45 i + p → 0 ≤ σ 42 j ∧ σ 42 j < 12) (hc47 : ∀ j : Int, 0 ≤ j → j < 49660 → 0 ≤ σ 47 j ∧ σ 47 j ≤ 999) (hfm : ∀ a k l : Int, 0 ≤ a → 1 ≤ k → k ≤ 3 → a + k ≤ p → 0 ≤ l → l < 26 → zmc σ l (σ 45 i + a) k = (if f a k l < 0 then 1000000000 else f a k l) ∧ -1 ≤ f a k l ∧ f a k l ≤ 100) (hwl : 0 ≤ q0 ∧ q0 + n9 ≤ 12 ∧ ∀ j : Int, 0 ≤ j → j < n9 → σ 53 (q0 + j) = w j.toNat) : ∀ (n : Nat) (l : Int) (t : zS), l + 1 < (n : Int) → (-1 ≤ l ∧ l ≤ n9) → (zfr [60] σ t) → (zMA f w n9 p t l p) → zRuns 133 zX0 (fun (v : Int) (u : zS) => zfr [60] σ u ∧ (∀ x y : Int, 0 ≤ x → x ≤ n9 → 0 ≤ y → y ≤ p → u 60 (15 * x + y) = zsp f w n9 p 1000000000 (n9 - x).toNat y) ∧ v = zsp f w n9 p 1000000000 n9 0) 21 [some (.inr (.inr (9, 0))), some (.inl i), some (.inr (.inr (53, 0))), some (.inl q0), some (.inl (n9 : Int)), some (.inl p), some (.inl l), none, none, none, none, none] [] t := by
  intro n
  induction n with
  | zero =>
    intro l t hn l0 hfr hA
    exfalso
    omega
  | succ n ih =>
    intro l t hn l0 hfr hA
    refine zwalk zmk_133 [(21, [true, true, true, true, true, true, true, false, false, false, false, false]), (30, [true, true, true, true, true, true, true, true, false, false, false, false]), (60, [true, true, true, true, true, true, true, true, true, true, false, false])] 3 ?_
    show ((l < 0 → ((0 ≤ (0 : Int) ∧ (0 : Int) < (195 : Int)) ∧ (zfr [60] σ t ∧ (∀ x y : Int, 0 ≤ x → x ≤ n9 → 0 ≤ y → y ≤ p → t 60 (15 * x + y) = zsp f w n9 p 1000000000 (n9 - x).toNat y) ∧ (t 60 (0 : Int)) = zsp f w n9 p 1000000000 n9 0))) ∧ (0 ≤ l → zRuns 133 zX0 (fun (v : Int) (u : zS) => zfr [60] σ u ∧ (∀ x y : Int, 0 ≤ x → x ≤ n9 → 0 ≤ y → y ≤ p → u 60 (15 * x + y) = zsp f w n9 p 1000000000 (n9 - x).toNat y) ∧ v = zsp f w n9 p 1000000000 n9 0) 30 [some (.inr (.inr (9, 0))), some (.inl i), some (.inr (.inr (53, 0))), some (.inl q0), some (.inl (n9 : Int)), some (.inl p), some (.inl l), some (.inl p), none, none, none, none] [] t))
    refine ⟨?_, ?_⟩
    · intro h1
      refine ⟨by (first | exact ⟨by omega, by omega⟩ | (exfalso; omega)), ?_⟩
      obtain rfl : l = -1 := by omega
      have h00 := hA 0 0 (by omega) (by omega) (by omega)
      rw [show ((n9 : Int) - 0).toNat = n9 by omega, show 15 * (0 : Int) + 0 = 0 by omega] at h00
      exact ⟨hfr, fun x y x0 x1 y0 y1 => hA x y (by omega) y0 y1, h00⟩
    · intro h2
      exact lp_ms30w hi hp hw hn12 hb0 hs hc47 hfm hwl ⟨by omega, by omega⟩ (fun t9 g1 g2 => ih (l + -1) t9 (by omega) ⟨by omega, by omega⟩ g1 g2) (p.toNat + 2) p t (by omega) ⟨by omega, by omega⟩ hfr hA
set_option maxRecDepth 100000 in
set_option maxHeartbeats 4000000 in
theorem am_X9_spellw {σ : zS} {i : Int} {q0 : Int} {p : Int} {w : Nat → Int} {n9 : Nat} {f : Int → Int → Int → Int} (hi : 0 ≤ i ∧ i < 40) (hp : 0 ≤ p) (hw : zlet w n9) (hn12 : 1 ≤ n9 ∧ n9 ≤ 12) (hb0 : 0 ≤ σ 45 i ∧ σ 45 i + p ≤ 40 ∧ σ 45 (i + 1) = σ 45 i + p) (hs : ∀ j : Int, σ 45 i ≤ j → j < σ 45 i + p → 0 ≤ σ 42 j ∧ σ 42 j < 12) (hc47 : ∀ j : Int, 0 ≤ j → j < 49660 → 0 ≤ σ 47 j ∧ σ 47 j ≤ 999) (hfm : p ≤ 14 → ∀ a k l : Int, 0 ≤ a → 1 ≤ k → k ≤ 3 → a + k ≤ p → 0 ≤ l → l < 26 → zmc σ l (σ 45 i + a) k = (if f a k l < 0 then 1000000000 else f a k l) ∧ -1 ≤ f a k l ∧ f a k l ≤ 100) (hwl : 0 ≤ q0 ∧ q0 + n9 ≤ 12 ∧ ∀ j : Int, 0 ≤ j → j < n9 → σ 53 (q0 + j) = w j.toNat) : zAM 133 [.inr (.inr (9, 0)), .inl i, .inr (.inr (53, 0)), .inl q0, .inl (n9 : Int)] σ (fun (v : Int) (u : zS) => zfr [60] σ u ∧ (p ≤ 14 → ∀ x y : Int, 0 ≤ x → x ≤ n9 → 0 ≤ y → y ≤ p → u 60 (15 * x + y) = zsp f w n9 p 1000000000 (n9 - x).toNat y) ∧ v = zsp f w n9 (if 14 < p then 0 else p) 1000000000 n9 0) := by
  refine zam (by decide) (Nat.le_of_ble_eq_true rfl) ?_
  refine zwalk zmk_133 [(21, [true, true, true, true, true, true, true, false, false, false, false, false]), (30, [true, true, true, true, true, true, true, true, false, false, false, false]), (60, [true, true, true, true, true, true, true, true, true, true, false, false])] 3 ?_
  show (∃ Rc : Int → zS → Prop, zAM 117 [.inr (.inr (9, 0)), .inl i] σ Rc ∧ ∀ (v1 : Int) (u1 : zS), zI v1 → Rc v1 u1 → ((v1 ≤ (14 : Int) → zRuns 133 zX0 (fun (v : Int) (u : zS) => zfr [60] σ u ∧ (p ≤ 14 → ∀ x y : Int, 0 ≤ x → x ≤ n9 → 0 ≤ y → y ≤ p → u 60 (15 * x + y) = zsp f w n9 p 1000000000 (n9 - x).toNat y) ∧ v = zsp f w n9 (if 14 < p then 0 else p) 1000000000 n9 0) 21 [some (.inr (.inr (9, 0))), some (.inl i), some (.inr (.inr (53, 0))), some (.inl q0), some (.inl (n9 : Int)), some (.inl v1), some (.inl (n9 : Int)), none, none, none, none, none] [] u1) ∧ ((14 : Int) < v1 → (zfr [60] σ u1 ∧ (p ≤ 14 → ∀ x y : Int, 0 ≤ x → x ≤ n9 → 0 ≤ y → y ≤ p → u1 60 (15 * x + y) = zsp f w n9 p 1000000000 (n9 - x).toNat y) ∧ (1000000000 : Int) = zsp f w n9 (if 14 < p then 0 else p) 1000000000 n9 0))))
  refine ⟨_, am_X9_many (hi) (by omega) (by omega), ?_⟩
  intro v1 u1 hv1
  rintro ⟨rfl, ev1⟩
  obtain ⟨hv1a, hv1b⟩ := hv1
  have ep : v1 = p := by omega
  subst ep
  refine ⟨?_, ?_⟩
  · intro h1
    refine (lp_ms21w hi ⟨hp, by omega⟩ hw hn12.2 ⟨hb0.1, hb0.2.1⟩ hs hc47 (hfm (by omega)) hwl (n9 + 2) _ σ (by omega) ⟨by omega, by omega⟩ zfr.rf (fun x y q y0 y1 => by omega)).mono (fun v u q => ⟨q.1, fun _ => q.2.1, ?_⟩)
    rw [if_neg (by omega)]
    exact q.2.2
  · intro h2
    refine ⟨zfr.rf, fun q => by omega, ?_⟩
    rw [if_pos (by omega)]
    obtain ⟨d, rfl⟩ : ∃ d : Nat, n9 = d + 1 := ⟨n9 - 1, by omega⟩
    exact zsp_0.symm
