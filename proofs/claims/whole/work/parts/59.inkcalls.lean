/-! the class's calls on an ink: size, ask, kind, as, open, listed, find, count -/
theorem zMKv_r {σ : zS} {i k w : Int} (h : zAQ σ i) (hw : -1 ≤ w ∧ w ≤ 30) : -1 ≤ zMKv σ i k w ∧ zMKv σ i k w ≤ 200 := by
  have h9 := h.2.2.1
  unfold zMKv
  split
  · omega
  · split <;> omega
theorem zplace_r {σ : zS} {x w : Int} (h : zplace σ x w) (h2 : σ 4 3 ≤ 30) : -1 ≤ w ∧ w ≤ 30 := by
  rcases h with ⟨a, b, -⟩ | ⟨a, -⟩ <;> omega
theorem zMKv_bg {σ : zS} {i k w b : Int} : zMKv (zbg σ b) i k w = zMKv σ i k w := by
  unfold zMKv
  rw [zbg_o (k := 21) (by decide) (by decide)]
set_option maxRecDepth 100000 in
set_option maxHeartbeats 4000000 in
theorem am_X8_listedSize {σ : zS} {i : Int} (hQ : zAQ σ i) (h1 : 0 ≤ σ 31 1560 ∧ σ 31 1560 ≤ 2000) : zAM 98 [.inr (.inr (0, 0)), .inl i] σ (fun (v : Int) (u : zS) => ∃ w : Int, zplace σ (σ 32 1560) w ∧ zMKs (zbg (zbg (zbg (zbg σ 13) 12) 11) 10) (zmk σ w) = u ∧ 2 * (σ 20 (i + 1) - σ 20 i + σ 31 1560) + zMKv σ i (zmk σ w) w = v) := by
  refine zam (by decide) (Nat.le_of_ble_eq_true rfl) ?_
  refine zwalk zmk_98 [] 2 ?_
  show (∃ Rc : Int → zS → Prop, zAM 93 [.inr (.inr (0, 0)), .inl (13 : Int)] σ Rc ∧ ∀ (u1 : zS), Rc 0 u1 → (∃ Rc : Int → zS → Prop, zAM 97 [.inr (.inr (0, 0)), .inl i] u1 Rc ∧ ∀ (v2 : Int) (u2 : zS), zI v2 → Rc v2 u2 → (∃ Rc : Int → zS → Prop, zAM 99 [.inr (.inr (0, 0)), .inl i] u2 Rc ∧ ∀ (v3 : Int) (u3 : zS), zI v3 → Rc v3 u3 → (zI (v2 + v3) ∧ (∃ w : Int, zplace σ (σ 32 1560) w ∧ zMKs (zbg (zbg (zbg (zbg σ 13) 12) 11) 10) (zmk σ w) = u3 ∧ 2 * (σ 20 (i + 1) - σ 20 i + σ 31 1560) + zMKv σ i (zmk σ w) w = (v2 + v3))))))
  have h95 := h1
  have h96 := hQ.2.2.2.1
  have h94 := hQ.2.2.2.2.1
  refine ⟨_, am_X8_begin (by first | exact hQ.2.1 | exact hQ.bg.2.1), ?_⟩
  intro u1
  intro kv1
  obtain rfl := (show zbg _ _ = u1 from kv1)
  refine ⟨_, am_X8_sureSize (hQ.bg) (by rw [zbg_o (k := 31) (by decide) (by decide)]; exact h95), ?_⟩
  intro v2 u2 hv2
  intro kv2
  obtain ⟨hv2a, hv2b⟩ := hv2
  obtain ⟨rfl, wv2⟩ := kv2
  rw [zbg_o (k := 20) (by decide) (by decide), zbg_o (k := 31) (by decide) (by decide)] at wv2
  refine ⟨_, am_X8_askMark (hQ.bg.bg.bg.bg), ?_⟩
  intro v3 u3 hv3
  intro kv3
  obtain ⟨hv3a, hv3b⟩ := hv3
  obtain ⟨w5, w6, w7, w8⟩ := kv3
  rw [zplace_bg, zplace_bg, zplace_bg, zplace_bg, zbg_o (k := 32) (by decide) (by decide), zbg_o (k := 32) (by decide) (by decide), zbg_o (k := 32) (by decide) (by decide), zbg_o (k := 32) (by decide) (by decide)] at w6
  rw [zmk_bg, zmk_bg, zmk_bg, zmk_bg] at w7 w8
  rw [zMKv_bg, zMKv_bg, zMKv_bg, zMKv_bg] at w8
  have w9 := zMKv_r (k := zmk σ w5) hQ (zplace_r w6 h94.2)
  refine ⟨by (exact ⟨by omega, by omega⟩), ?_⟩
  exact ⟨w5, w6, w7, by omega⟩
set_option maxRecDepth 100000 in
set_option maxHeartbeats 4000000 in
theorem am_X8_askSize {σ : zS} {i : Int} (hQ : zAQ σ i) : zAM 94 [.inr (.inr (0, 0)), .inl i] σ (fun (v : Int) (u : zS) => ∃ w : Int, zplace σ (σ 32 1560) w ∧ zSZs σ (zmk σ w) = u ∧ zSZv σ i (zmk σ w) w = v) := by
  refine zam (by decide) (Nat.le_of_ble_eq_true rfl) ?_
  refine zwalk zmk_94 [] 3 ?_
  show (∃ Rc : Int → zS → Prop, zAM 92 [.inr (.inr (0, 0))] σ Rc ∧ ∀ (v1 : Int) (u1 : zS), zI v1 → Rc v1 u1 → (((v1 = (1 : Int) → (∃ Rc : Int → zS → Prop, zAM 96 [.inr (.inr (0, 0)), .inl i] u1 Rc ∧ ∀ (v4 : Int) (u4 : zS), zI v4 → Rc v4 u4 → (∃ w : Int, zplace σ (σ 32 1560) w ∧ zSZs σ (zmk σ w) = u4 ∧ zSZv σ i (zmk σ w) w = v4))) ∧ ((v1 = (2 : Int) → (∃ Rc : Int → zS → Prop, zAM 97 [.inr (.inr (0, 0)), .inl i] u1 Rc ∧ ∀ (v3 : Int) (u3 : zS), zI v3 → Rc v3 u3 → (∃ w : Int, zplace σ (σ 32 1560) w ∧ zSZs σ (zmk σ w) = u3 ∧ zSZv σ i (zmk σ w) w = v3))) ∧ ((v1 = (3 : Int) → (∃ Rc : Int → zS → Prop, zAM 98 [.inr (.inr (0, 0)), .inl i] u1 Rc ∧ ∀ (v2 : Int) (u2 : zS), zI v2 → Rc v2 u2 → (∃ w : Int, zplace σ (σ 32 1560) w ∧ zSZs σ (zmk σ w) = u2 ∧ zSZv σ i (zmk σ w) w = v2))) ∧ True))) ∧ ((v1 < (1 : Int) ∨ (3 : Int) < v1) → (∃ Rc : Int → zS → Prop, zAM 95 [.inr (.inr (0, 0)), .inl i] u1 Rc ∧ ∀ (v5 : Int) (u5 : zS), zI v5 → Rc v5 u5 → (∃ w : Int, zplace σ (σ 32 1560) w ∧ zSZs σ (zmk σ w) = u5 ∧ zSZv σ i (zmk σ w) w = v5)))))
  refine ⟨_, am_X8_kindInHand (hQ.2.2.2.2.2.1) (hQ.2.2.2.2.1) (hQ.2.2.2.2.2.2), ?_⟩
  intro v1 u1 hv1
  intro kv1
  obtain ⟨hv1a, hv1b⟩ := hv1
  obtain ⟨rfl, w0, w1, w2⟩ := kv1
  have wk : zmk σ w0 = v1 := w2
  have wk1 : 1 ≤ v1 → 0 ≤ σ 31 1560 ∧ σ 31 1560 ≤ 2000 := fun q => by
    have h9 := hQ.2.2.2.2.2
    have h8 : ¬ σ 30 312 = 0 := fun z => by unfold zmk at wk; rw [if_pos z] at wk; omega
    exact h9.2 0 (by decide) (by decide) (by omega)
  refine ⟨?_, ?_⟩
  · refine ⟨?_, ?_⟩
    · intro h1
      refine ⟨_, am_X8_readSize (hQ) (wk1 (by omega)), ?_⟩
      intro v4 u4 hv4
      intro kv4
      obtain ⟨hv4a, hv4b⟩ := hv4
      obtain ⟨rfl, w8⟩ := kv4
      have hk9 := zmk_r (σ := σ) (w := w0)
      refine ⟨w0, w1, ?_, ?_⟩
      · rw [wk]; unfold zSZs
        first | (rw [if_pos (by omega)]; rw [wk, show v1 = 3 by omega] at w7; exact w7) | (rw [if_neg (by omega), if_pos (by omega)]) | (rw [if_neg (by omega), if_neg (by omega), if_pos (by omega)]) | (rw [if_neg (by omega), if_neg (by omega), if_neg (by omega)])
      · rw [wk]; unfold zSZv
        first | (rw [if_pos (by omega)]; rw [wk, show v1 = 3 by omega] at w8; exact w8) | (rw [if_neg (by omega), if_pos (by omega)]; exact w8) | (rw [if_neg (by omega), if_neg (by omega), if_pos (by omega)]; exact w8) | (rw [if_neg (by omega), if_neg (by omega), if_neg (by omega)]; exact w8)
    · refine ⟨?_, ?_⟩
      · intro h2
        refine ⟨_, am_X8_sureSize (hQ) (wk1 (by omega)), ?_⟩
        intro v3 u3 hv3
        intro kv3
        obtain ⟨hv3a, hv3b⟩ := hv3
        obtain ⟨rfl, w8⟩ := kv3
        have hk9 := zmk_r (σ := σ) (w := w0)
        refine ⟨w0, w1, ?_, ?_⟩
        · rw [wk]; unfold zSZs
          first | (rw [if_pos (by omega)]; rw [wk, show v1 = 3 by omega] at w7; exact w7) | (rw [if_neg (by omega), if_pos (by omega)]) | (rw [if_neg (by omega), if_neg (by omega), if_pos (by omega)]) | (rw [if_neg (by omega), if_neg (by omega), if_neg (by omega)])
        · rw [wk]; unfold zSZv
          first | (rw [if_pos (by omega)]; rw [wk, show v1 = 3 by omega] at w8; exact w8) | (rw [if_neg (by omega), if_pos (by omega)]; exact w8) | (rw [if_neg (by omega), if_neg (by omega), if_pos (by omega)]; exact w8) | (rw [if_neg (by omega), if_neg (by omega), if_neg (by omega)]; exact w8)
      · refine ⟨?_, ?_⟩
        · intro h3
          refine ⟨_, am_X8_listedSize (hQ) (wk1 (by omega)), ?_⟩
          intro v2 u2 hv2
          intro kv2
          obtain ⟨hv2a, hv2b⟩ := hv2
          obtain ⟨w5, w6, w7, w8⟩ := kv2
          have w9 := zplace_u w1 w6
          rw [← w9] at w7 w8
          have hk9 := zmk_r (σ := σ) (w := w0)
          refine ⟨w0, w1, ?_, ?_⟩
          · rw [wk]; unfold zSZs
            first | (rw [if_pos (by omega)]; rw [wk, show v1 = 3 by omega] at w7; exact w7) | (rw [if_neg (by omega), if_pos (by omega)]) | (rw [if_neg (by omega), if_neg (by omega), if_pos (by omega)]) | (rw [if_neg (by omega), if_neg (by omega), if_neg (by omega)])
          · rw [wk]; unfold zSZv
            first | (rw [if_pos (by omega)]; rw [wk, show v1 = 3 by omega] at w8; exact w8) | (rw [if_neg (by omega), if_pos (by omega)]; exact w8) | (rw [if_neg (by omega), if_neg (by omega), if_pos (by omega)]; exact w8) | (rw [if_neg (by omega), if_neg (by omega), if_neg (by omega)]; exact w8)
        · trivial
  · intro h4
    refine ⟨_, am_X8_inkSize (hQ), ?_⟩
    intro v5 u5 hv5
    intro kv5
    obtain ⟨hv5a, hv5b⟩ := hv5
    obtain ⟨rfl, w8⟩ := kv5
    have hk9 := zmk_r (σ := σ) (w := w0)
    refine ⟨w0, w1, ?_, ?_⟩
    · rw [wk]; unfold zSZs
      first | (rw [if_pos (by omega)]; rw [wk, show v1 = 3 by omega] at w7; exact w7) | (rw [if_neg (by omega), if_pos (by omega)]) | (rw [if_neg (by omega), if_neg (by omega), if_pos (by omega)]) | (rw [if_neg (by omega), if_neg (by omega), if_neg (by omega)])
    · rw [wk]; unfold zSZv
      first | (rw [if_pos (by omega)]; rw [wk, show v1 = 3 by omega] at w8; exact w8) | (rw [if_neg (by omega), if_pos (by omega)]; exact w8) | (rw [if_neg (by omega), if_neg (by omega), if_pos (by omega)]; exact w8) | (rw [if_neg (by omega), if_neg (by omega), if_neg (by omega)]; exact w8)
/-- all that calls on inks need -/
def zCQ (σ : zS) (cnt : Int → Int → Int) (P : Int → Int → Int) : Prop := zOK σ cnt P ∧ zIH σ cnt P ∧ (∀ i : Int, 0 ≤ i → i < σ 2 10 → 0 ≤ σ 21 i ∧ σ 21 i ≤ 40) ∧ (0 ≤ σ 4 3 ∧ σ 4 3 ≤ 30) ∧ 0 ≤ σ 0 10
theorem zSD_b {f : Int → Int → Int → Int} {P : Int → Int → Int} {p x d : Int} (hb : zgb f P p) (h : zSD f P p x d) : 0 ≤ d ∧ d ≤ 2000 := by
  obtain ⟨r, g, e1, e2⟩ := h
  have h2 := zgc_b hb (by decide) g.1.1 (by have := g.1.2; omega)
  have h3 := g.2.2
  rw [e2]
  omega
theorem zHD_c {u : zS} {f : Int → Int → Int → Int} {P : Int → Int → Int} {q : Int} (h : zHD u f P q) (hb : zgb f P q) : (0 ≤ u 30 312 ∧ u 30 312 ≤ 5) ∧ ∀ j : Int, 0 ≤ j → j < 5 → j < u 30 312 → 0 ≤ u 31 (1560 + j) ∧ u 31 (1560 + j) ≤ 2000 := by
  have h1 := h.2.2.2
  refine ⟨h1.1, fun j j0 _ j1 => ?_⟩
  have h2 := zSD_b hb (h1.2.2.1 j j0 j1).1
  exact h2
theorem zTK_AQ {σ u : zS} {cnt : Int → Int → Int} {P : Int → Int → Int} {i : Int} (hC : zCQ σ cnt P) (i0 : 0 ≤ i) (i1 : i < σ 2 10) (hT : zTK zHK σ u cnt P i) : zAQ u i := by
  obtain ⟨t1, t2, t3, t4⟩ := hT
  have h1 := zHD_c t4 (zgb_of hC.1)
  have h2 := hC.1.1
  have h3 := hC.1.2.1 i i0 i1
  have h4 := hC.2.2.1 i i0 i1
  unfold zAQ
  rw [t1 21 (by decide), t1 20 (by decide), t1 4 (by decide), t2 10 (by decide)]
  exact ⟨by omega, hC.2.2.2.2, h4, by omega, hC.2.2.2.1, h1⟩
set_option maxRecDepth 100000 in
set_option maxHeartbeats 4000000 in
theorem am_X8_kind {σ : zS} {i : Int} {cnt : Int → Int → Int} {P : Int → Int → Int} (hC : zCQ σ cnt P) : zAM 70 [.inr (.inr (0, 0)), .inl i] σ (fun (v : Int) (u : zS) => ((¬ (0 ≤ i ∧ i < σ 2 10)) ∧ σ = u ∧ -1000001 = v) ∨ ((0 ≤ i ∧ i < σ 2 10) ∧ zTK zHK σ u cnt P i ∧ ∃ w : Int, zplace u (u 32 1560) w ∧ zmk u w = v)) := by
  refine zam (by decide) (Nat.le_of_ble_eq_true rfl) ?_
  refine zwalk zmk_70 [] 3 ?_
  show (∃ Rc : Int → zS → Prop, zAM 79 [.inr (.inr (0, 0)), .inl i] σ Rc ∧ ∀ (v1 : Int) (u1 : zS), zI v1 → Rc v1 u1 → ((¬ v1 = 0 → (∃ Rc : Int → zS → Prop, zAM 90 [.inr (.inr (0, 0)), .inl i] u1 Rc ∧ ∀ (u2 : zS), Rc 0 u2 → (∃ Rc : Int → zS → Prop, zAM 92 [.inr (.inr (0, 0))] u2 Rc ∧ ∀ (v3 : Int) (u3 : zS), zI v3 → Rc v3 u3 → (((¬ (0 ≤ i ∧ i < σ 2 10)) ∧ σ = u3 ∧ -1000001 = v3) ∨ ((0 ≤ i ∧ i < σ 2 10) ∧ zTK zHK σ u3 cnt P i ∧ ∃ w : Int, zplace u3 (u3 32 1560) w ∧ zmk u3 w = v3))))) ∧ (v1 = 0 → (((¬ (0 ≤ i ∧ i < σ 2 10)) ∧ σ = u1 ∧ -1000001 = (-1000001 : Int)) ∨ ((0 ≤ i ∧ i < σ 2 10) ∧ zTK zHK σ u1 cnt P i ∧ ∃ w : Int, zplace u1 (u1 32 1560) w ∧ zmk u1 w = (-1000001 : Int))))))
  refine ⟨_, am_X8_isInk, ?_⟩
  intro v1 u1 hv1
  rintro ⟨rfl, (⟨rfl, cv1⟩ | ⟨rfl, cv1⟩)⟩
  · refine ⟨?_, ?_⟩
    · intro _
      refine ⟨_, am_X8_takeInHand (hC.1) (hC.2.1) (by omega), ?_⟩
      intro u2
      intro kv2
      have hA := zTK_AQ hC cv1.1 cv1.2 kv2
      refine ⟨_, am_X8_kindInHand (hA.2.2.2.2.2.1) (hA.2.2.2.2.1) (hA.2.2.2.2.2.2), ?_⟩
      intro v3 u3 hv3
      intro kv3
      obtain ⟨hv3a, hv3b⟩ := hv3
      obtain ⟨rfl, w0, w1, w2⟩ := kv3
      first | exact Or.inl ⟨cv1, rfl, rfl⟩ | exact Or.inr ⟨cv1, kv2, w0, w1, w2⟩
    · exact fun h => absurd h (by decide)
  · refine ⟨?_, ?_⟩
    · exact fun h => absurd h (by decide)
    · intro _
      first | exact Or.inl ⟨cv1, rfl, rfl⟩ | exact Or.inr ⟨cv1, kv2, w0, w1, w2⟩
set_option maxRecDepth 100000 in
set_option maxHeartbeats 4000000 in
theorem am_X8_as {σ : zS} {i : Int} {k : Int} {cnt : Int → Int → Int} {P : Int → Int → Int} (hC : zCQ σ cnt P) : zAM 71 [.inr (.inr (0, 0)), .inl i, .inl k] σ (fun (v : Int) (u : zS) => ((¬ (0 ≤ i ∧ i < σ 2 10) ∨ ¬ (0 ≤ k ∧ k ≤ 3)) ∧ σ = u ∧ -1000001 = v) ∨ (((0 ≤ i ∧ i < σ 2 10) ∧ 0 ≤ k ∧ k ≤ 3) ∧ ∃ τ : zS, zTK zHK σ τ cnt P i ∧ ∃ w : Int, zplace τ (τ 32 1560) w ∧ ((zmk τ w < k ∧ zup τ 0 11 3 = u ∧ -1000013 = v) ∨ (k ≤ zmk τ w ∧ zup τ 0 11 0 = u ∧ σ 20 (i + 1) - σ 20 i = v)))) := by
  refine zam (by decide) (Nat.le_of_ble_eq_true rfl) ?_
  refine zwalk zmk_71 [] 4 ?_
  show (∃ Rc : Int → zS → Prop, zAM 79 [.inr (.inr (0, 0)), .inl i] σ Rc ∧ ∀ (v1 : Int) (u1 : zS), zI v1 → Rc v1 u1 → ((v1 = 0 → (((¬ (0 ≤ i ∧ i < σ 2 10) ∨ ¬ (0 ≤ k ∧ k ≤ 3)) ∧ σ = u1 ∧ -1000001 = (-1000001 : Int)) ∨ (((0 ≤ i ∧ i < σ 2 10) ∧ 0 ≤ k ∧ k ≤ 3) ∧ ∃ τ : zS, zTK zHK σ τ cnt P i ∧ ∃ w : Int, zplace τ (τ 32 1560) w ∧ ((zmk τ w < k ∧ zup τ 0 11 3 = u1 ∧ -1000013 = (-1000001 : Int)) ∨ (k ≤ zmk τ w ∧ zup τ 0 11 0 = u1 ∧ σ 20 (i + 1) - σ 20 i = (-1000001 : Int)))))) ∧ (¬ v1 = 0 → ((k < 0 → (((¬ (0 ≤ i ∧ i < σ 2 10) ∨ ¬ (0 ≤ k ∧ k ≤ 3)) ∧ σ = u1 ∧ -1000001 = (-1000001 : Int)) ∨ (((0 ≤ i ∧ i < σ 2 10) ∧ 0 ≤ k ∧ k ≤ 3) ∧ ∃ τ : zS, zTK zHK σ τ cnt P i ∧ ∃ w : Int, zplace τ (τ 32 1560) w ∧ ((zmk τ w < k ∧ zup τ 0 11 3 = u1 ∧ -1000013 = (-1000001 : Int)) ∨ (k ≤ zmk τ w ∧ zup τ 0 11 0 = u1 ∧ σ 20 (i + 1) - σ 20 i = (-1000001 : Int)))))) ∧ (0 ≤ k → ((k ≤ (3 : Int) → (∃ Rc : Int → zS → Prop, zAM 90 [.inr (.inr (0, 0)), .inl i] u1 Rc ∧ ∀ (u2 : zS), Rc 0 u2 → (∃ Rc : Int → zS → Prop, zAM 92 [.inr (.inr (0, 0))] u2 Rc ∧ ∀ (v3 : Int) (u3 : zS), zI v3 → Rc v3 u3 → ((k ≤ v3 → (∃ Rc : Int → zS → Prop, zAM 21 [.inr (.inr (2, 0)), .inl i] u3 Rc ∧ ∀ (v4 : Int) (u4 : zS), zI v4 → Rc v4 u4 → (∃ Rc : Int → zS → Prop, zAM 77 [.inr (.inr (0, 0)), .inl v4] u4 Rc ∧ ∀ (v5 : Int) (u5 : zS), zI v5 → Rc v5 u5 → (((¬ (0 ≤ i ∧ i < σ 2 10) ∨ ¬ (0 ≤ k ∧ k ≤ 3)) ∧ σ = u5 ∧ -1000001 = v5) ∨ (((0 ≤ i ∧ i < σ 2 10) ∧ 0 ≤ k ∧ k ≤ 3) ∧ ∃ τ : zS, zTK zHK σ τ cnt P i ∧ ∃ w : Int, zplace τ (τ 32 1560) w ∧ ((zmk τ w < k ∧ zup τ 0 11 3 = u5 ∧ -1000013 = v5) ∨ (k ≤ zmk τ w ∧ zup τ 0 11 0 = u5 ∧ σ 20 (i + 1) - σ 20 i = v5))))))) ∧ (v3 < k → (∃ Rc : Int → zS → Prop, zAM 76 [.inr (.inr (0, 0)), .inl (3 : Int)] u3 Rc ∧ ∀ (v6 : Int) (u6 : zS), zI v6 → Rc v6 u6 → (((¬ (0 ≤ i ∧ i < σ 2 10) ∨ ¬ (0 ≤ k ∧ k ≤ 3)) ∧ σ = u6 ∧ -1000001 = v6) ∨ (((0 ≤ i ∧ i < σ 2 10) ∧ 0 ≤ k ∧ k ≤ 3) ∧ ∃ τ : zS, zTK zHK σ τ cnt P i ∧ ∃ w : Int, zplace τ (τ 32 1560) w ∧ ((zmk τ w < k ∧ zup τ 0 11 3 = u6 ∧ -1000013 = v6) ∨ (k ≤ zmk τ w ∧ zup τ 0 11 0 = u6 ∧ σ 20 (i + 1) - σ 20 i = v6)))))))))) ∧ ((3 : Int) < k → (((¬ (0 ≤ i ∧ i < σ 2 10) ∨ ¬ (0 ≤ k ∧ k ≤ 3)) ∧ σ = u1 ∧ -1000001 = (-1000001 : Int)) ∨ (((0 ≤ i ∧ i < σ 2 10) ∧ 0 ≤ k ∧ k ≤ 3) ∧ ∃ τ : zS, zTK zHK σ τ cnt P i ∧ ∃ w : Int, zplace τ (τ 32 1560) w ∧ ((zmk τ w < k ∧ zup τ 0 11 3 = u1 ∧ -1000013 = (-1000001 : Int)) ∨ (k ≤ zmk τ w ∧ zup τ 0 11 0 = u1 ∧ σ 20 (i + 1) - σ 20 i = (-1000001 : Int))))))))))))
  refine ⟨_, am_X8_isInk, ?_⟩
  intro v1 u1 hv1
  rintro ⟨rfl, (⟨rfl, cv1⟩ | ⟨rfl, cv1⟩)⟩
  · refine ⟨?_, ?_⟩
    · exact fun h => absurd h (by decide)
    · intro _
      refine ⟨?_, ?_⟩
      · intro h2
        first | exact Or.inl ⟨by omega, rfl, rfl⟩ | exact Or.inr ⟨⟨cv1, by omega, by omega⟩, _, kv2, w0, w1, Or.inl ⟨by omega, rfl, by omega⟩⟩ | exact Or.inr ⟨⟨cv1, by omega, by omega⟩, _, kv2, w0, w1, Or.inr ⟨by omega, rfl, by omega⟩⟩
      · intro h3
        refine ⟨?_, ?_⟩
        · intro h4
          refine ⟨_, am_X8_takeInHand (hC.1) (hC.2.1) (by omega), ?_⟩
          intro u2
          intro kv2
          have hA := zTK_AQ hC cv1.1 cv1.2 kv2
          refine ⟨_, am_X8_kindInHand (hA.2.2.2.2.2.1) (hA.2.2.2.2.1) (hA.2.2.2.2.2.2), ?_⟩
          intro v3 u3 hv3
          intro kv3
          obtain ⟨hv3a, hv3b⟩ := hv3
          obtain ⟨rfl, w0, w1, w2⟩ := kv3
          have wk : zmk u2 w0 = v3 := w2
          refine ⟨?_, ?_⟩
          · intro h5
            refine ⟨_, am_X2_piecesOf (hA.1) (hA.2.2.2.1 |> fun z => ⟨z.1, z.2.1⟩) (hA.2.2.2.1.2.2), ?_⟩
            intro v4 u4 hv4
            intro kv4
            obtain ⟨hv4a, hv4b⟩ := hv4
            obtain ⟨rfl, w4⟩ := kv4
            rw [kv2.1 20 (by decide)] at w4
            refine ⟨_, am_X8_fine, ?_⟩
            intro v5 u5 hv5
            intro kv5
            obtain ⟨hv5a, hv5b⟩ := hv5
            obtain ⟨rfl, w5⟩ := kv5
            first | exact Or.inl ⟨by omega, rfl, rfl⟩ | exact Or.inr ⟨⟨cv1, by omega, by omega⟩, _, kv2, w0, w1, Or.inl ⟨by omega, rfl, by omega⟩⟩ | exact Or.inr ⟨⟨cv1, by omega, by omega⟩, _, kv2, w0, w1, Or.inr ⟨by omega, rfl, by omega⟩⟩
          · intro h6
            refine ⟨_, am_X8_found (by decide), ?_⟩
            intro v6 u6 hv6
            intro kv6
            obtain ⟨hv6a, hv6b⟩ := hv6
            obtain ⟨rfl, w5⟩ := kv6
            first | exact Or.inl ⟨by omega, rfl, rfl⟩ | exact Or.inr ⟨⟨cv1, by omega, by omega⟩, _, kv2, w0, w1, Or.inl ⟨by omega, rfl, by omega⟩⟩ | exact Or.inr ⟨⟨cv1, by omega, by omega⟩, _, kv2, w0, w1, Or.inr ⟨by omega, rfl, by omega⟩⟩
        · intro h7
          first | exact Or.inl ⟨by omega, rfl, rfl⟩ | exact Or.inr ⟨⟨cv1, by omega, by omega⟩, _, kv2, w0, w1, Or.inl ⟨by omega, rfl, by omega⟩⟩ | exact Or.inr ⟨⟨cv1, by omega, by omega⟩, _, kv2, w0, w1, Or.inr ⟨by omega, rfl, by omega⟩⟩
  · refine ⟨?_, ?_⟩
    · intro _
      first | exact Or.inl ⟨by omega, rfl, rfl⟩ | exact Or.inr ⟨⟨cv1, by omega, by omega⟩, _, kv2, w0, w1, Or.inl ⟨by omega, rfl, by omega⟩⟩ | exact Or.inr ⟨⟨cv1, by omega, by omega⟩, _, kv2, w0, w1, Or.inr ⟨by omega, rfl, by omega⟩⟩
    · exact fun h => absurd h (by decide)
set_option maxRecDepth 100000 in
set_option maxHeartbeats 4000000 in
theorem am_X8_ask {σ : zS} {i : Int} {k : Int} {cnt : Int → Int → Int} {P : Int → Int → Int} (hC : zCQ σ cnt P) : zAM 72 [.inr (.inr (0, 0)), .inl i, .inl k] σ (fun (v : Int) (u : zS) => ((¬ (0 ≤ i ∧ i < σ 2 10) ∨ ¬ (0 ≤ k ∧ k ≤ 1)) ∧ σ = u ∧ -1000001 = v) ∨ (((0 ≤ i ∧ i < σ 2 10) ∧ 0 ≤ k ∧ k ≤ 1) ∧ ∃ τ : zS, zTK zHK σ τ cnt P i ∧ ∃ w : Int, zplace τ (τ 32 1560) w ∧ ((k = 0 ∧ zSZs (zup τ 0 10 0) (zmk τ w) = u ∧ zSZv τ i (zmk τ w) w = v) ∨ (k = 1 ∧ zMKs (zup τ 0 10 0) (zmk τ w) = u ∧ zMKv τ i (zmk τ w) w = v)))) := by
  refine zam (by decide) (Nat.le_of_ble_eq_true rfl) ?_
  refine zwalk zmk_72 [] 4 ?_
  show (∃ Rc : Int → zS → Prop, zAM 79 [.inr (.inr (0, 0)), .inl i] σ Rc ∧ ∀ (v1 : Int) (u1 : zS), zI v1 → Rc v1 u1 → ((v1 = 0 → (((¬ (0 ≤ i ∧ i < σ 2 10) ∨ ¬ (0 ≤ k ∧ k ≤ 1)) ∧ σ = u1 ∧ -1000001 = (-1000001 : Int)) ∨ (((0 ≤ i ∧ i < σ 2 10) ∧ 0 ≤ k ∧ k ≤ 1) ∧ ∃ τ : zS, zTK zHK σ τ cnt P i ∧ ∃ w : Int, zplace τ (τ 32 1560) w ∧ ((k = 0 ∧ zSZs (zup τ 0 10 0) (zmk τ w) = u1 ∧ zSZv τ i (zmk τ w) w = (-1000001 : Int)) ∨ (k = 1 ∧ zMKs (zup τ 0 10 0) (zmk τ w) = u1 ∧ zMKv τ i (zmk τ w) w = (-1000001 : Int)))))) ∧ (¬ v1 = 0 → ((k < 0 → (((¬ (0 ≤ i ∧ i < σ 2 10) ∨ ¬ (0 ≤ k ∧ k ≤ 1)) ∧ σ = u1 ∧ -1000001 = (-1000001 : Int)) ∨ (((0 ≤ i ∧ i < σ 2 10) ∧ 0 ≤ k ∧ k ≤ 1) ∧ ∃ τ : zS, zTK zHK σ τ cnt P i ∧ ∃ w : Int, zplace τ (τ 32 1560) w ∧ ((k = 0 ∧ zSZs (zup τ 0 10 0) (zmk τ w) = u1 ∧ zSZv τ i (zmk τ w) w = (-1000001 : Int)) ∨ (k = 1 ∧ zMKs (zup τ 0 10 0) (zmk τ w) = u1 ∧ zMKv τ i (zmk τ w) w = (-1000001 : Int)))))) ∧ (0 ≤ k → ((k ≤ (1 : Int) → (∃ Rc : Int → zS → Prop, zAM 90 [.inr (.inr (0, 0)), .inl i] u1 Rc ∧ ∀ (u2 : zS), Rc 0 u2 → ((¬ k = 0 → (∃ Rc : Int → zS → Prop, zAM 99 [.inr (.inr (0, 0)), .inl i] (zup u2 0 (10 : Int) (0 : Int)) Rc ∧ ∀ (v3 : Int) (u3 : zS), zI v3 → Rc v3 u3 → (((¬ (0 ≤ i ∧ i < σ 2 10) ∨ ¬ (0 ≤ k ∧ k ≤ 1)) ∧ σ = u3 ∧ -1000001 = v3) ∨ (((0 ≤ i ∧ i < σ 2 10) ∧ 0 ≤ k ∧ k ≤ 1) ∧ ∃ τ : zS, zTK zHK σ τ cnt P i ∧ ∃ w : Int, zplace τ (τ 32 1560) w ∧ ((k = 0 ∧ zSZs (zup τ 0 10 0) (zmk τ w) = u3 ∧ zSZv τ i (zmk τ w) w = v3) ∨ (k = 1 ∧ zMKs (zup τ 0 10 0) (zmk τ w) = u3 ∧ zMKv τ i (zmk τ w) w = v3)))))) ∧ (k = 0 → (∃ Rc : Int → zS → Prop, zAM 94 [.inr (.inr (0, 0)), .inl i] (zup u2 0 (10 : Int) (0 : Int)) Rc ∧ ∀ (v4 : Int) (u4 : zS), zI v4 → Rc v4 u4 → (((¬ (0 ≤ i ∧ i < σ 2 10) ∨ ¬ (0 ≤ k ∧ k ≤ 1)) ∧ σ = u4 ∧ -1000001 = v4) ∨ (((0 ≤ i ∧ i < σ 2 10) ∧ 0 ≤ k ∧ k ≤ 1) ∧ ∃ τ : zS, zTK zHK σ τ cnt P i ∧ ∃ w : Int, zplace τ (τ 32 1560) w ∧ ((k = 0 ∧ zSZs (zup τ 0 10 0) (zmk τ w) = u4 ∧ zSZv τ i (zmk τ w) w = v4) ∨ (k = 1 ∧ zMKs (zup τ 0 10 0) (zmk τ w) = u4 ∧ zMKv τ i (zmk τ w) w = v4))))))))) ∧ ((1 : Int) < k → (((¬ (0 ≤ i ∧ i < σ 2 10) ∨ ¬ (0 ≤ k ∧ k ≤ 1)) ∧ σ = u1 ∧ -1000001 = (-1000001 : Int)) ∨ (((0 ≤ i ∧ i < σ 2 10) ∧ 0 ≤ k ∧ k ≤ 1) ∧ ∃ τ : zS, zTK zHK σ τ cnt P i ∧ ∃ w : Int, zplace τ (τ 32 1560) w ∧ ((k = 0 ∧ zSZs (zup τ 0 10 0) (zmk τ w) = u1 ∧ zSZv τ i (zmk τ w) w = (-1000001 : Int)) ∨ (k = 1 ∧ zMKs (zup τ 0 10 0) (zmk τ w) = u1 ∧ zMKv τ i (zmk τ w) w = (-1000001 : Int))))))))))))
  refine ⟨_, am_X8_isInk, ?_⟩
  intro v1 u1 hv1
  rintro ⟨rfl, (⟨rfl, cv1⟩ | ⟨rfl, cv1⟩)⟩
  · refine ⟨?_, ?_⟩
    · exact fun h => absurd h (by decide)
    · intro _
      refine ⟨?_, ?_⟩
      · intro h2
        first | exact Or.inl ⟨by omega, rfl, rfl⟩ | exact Or.inr ⟨⟨cv1, by omega, by omega⟩, _, kv2, w0, w1, Or.inl ⟨by omega, w2, w3⟩⟩ | exact Or.inr ⟨⟨cv1, by omega, by omega⟩, _, kv2, w0, w1, Or.inr ⟨by omega, w2, w3⟩⟩
      · intro h3
        refine ⟨?_, ?_⟩
        · intro h4
          refine ⟨_, am_X8_takeInHand (hC.1) (hC.2.1) (by omega), ?_⟩
          intro u2
          intro kv2
          have hA := zTK_AQ hC cv1.1 cv1.2 kv2
          have hA2 : zAQ (zup u2 0 10 0) i := ⟨hA.1, Int.le_refl 0, hA.2.2⟩
          refine ⟨?_, ?_⟩
          · intro h5
            refine ⟨_, am_X8_askMark (hA2), ?_⟩
            intro v3 u3 hv3
            intro kv3
            obtain ⟨hv3a, hv3b⟩ := hv3
            obtain ⟨w0, w1, w2, w3⟩ := kv3
            first | exact Or.inl ⟨by omega, rfl, rfl⟩ | exact Or.inr ⟨⟨cv1, by omega, by omega⟩, _, kv2, w0, w1, Or.inl ⟨by omega, w2, w3⟩⟩ | exact Or.inr ⟨⟨cv1, by omega, by omega⟩, _, kv2, w0, w1, Or.inr ⟨by omega, w2, w3⟩⟩
          · intro h6
            refine ⟨_, am_X8_askSize (hA2), ?_⟩
            intro v4 u4 hv4
            intro kv4
            obtain ⟨hv4a, hv4b⟩ := hv4
            obtain ⟨w0, w1, w2, w3⟩ := kv4
            first | exact Or.inl ⟨by omega, rfl, rfl⟩ | exact Or.inr ⟨⟨cv1, by omega, by omega⟩, _, kv2, w0, w1, Or.inl ⟨by omega, w2, w3⟩⟩ | exact Or.inr ⟨⟨cv1, by omega, by omega⟩, _, kv2, w0, w1, Or.inr ⟨by omega, w2, w3⟩⟩
        · intro h7
          first | exact Or.inl ⟨by omega, rfl, rfl⟩ | exact Or.inr ⟨⟨cv1, by omega, by omega⟩, _, kv2, w0, w1, Or.inl ⟨by omega, w2, w3⟩⟩ | exact Or.inr ⟨⟨cv1, by omega, by omega⟩, _, kv2, w0, w1, Or.inr ⟨by omega, w2, w3⟩⟩
  · refine ⟨?_, ?_⟩
    · intro _
      first | exact Or.inl ⟨by omega, rfl, rfl⟩ | exact Or.inr ⟨⟨cv1, by omega, by omega⟩, _, kv2, w0, w1, Or.inl ⟨by omega, w2, w3⟩⟩ | exact Or.inr ⟨⟨cv1, by omega, by omega⟩, _, kv2, w0, w1, Or.inr ⟨by omega, w2, w3⟩⟩
    · exact fun h => absurd h (by decide)
