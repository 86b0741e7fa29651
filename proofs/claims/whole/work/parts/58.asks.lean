/-! the class's asks -/
def zbg (σ : zS) (b : Int) : zS := if σ 0 10 < 16 then zup (zup σ 10 (σ 0 10) b) 0 10 (σ 0 10 + 1) else σ
theorem zbg_o {σ : zS} {b : Int} {k : Nat} (h : k ≠ 0) (h2 : k ≠ 10) : zbg σ b k = σ k := by
  unfold zbg
  split
  · rw [zup_ne h, zup_ne h2]
  · rfl
theorem zbg_0 {σ : zS} {b j : Int} (h : ¬ j = 10) : zbg σ b 0 j = σ 0 j := by
  unfold zbg
  split
  · rw [zup_at, if_neg h, zup_ne (by decide)]
  · rfl
theorem zbg_n {σ : zS} {b : Int} (h : 0 ≤ σ 0 10) : 0 ≤ zbg σ b 0 10 := by
  unfold zbg
  split
  · rw [zup_at, if_pos rfl]; omega
  · exact h
def zmk (σ : zS) (w : Int) : Int := if σ 30 312 = 0 then 0 else if 1 < σ 30 312 ∧ σ 31 1561 - σ 31 1560 < 4 then 1 else if w < 0 then 2 else 3
theorem zmk_r {σ : zS} {w : Int} : 0 ≤ zmk σ w ∧ zmk σ w ≤ 3 ∧ (zmk σ w = 3 → 0 ≤ w) := by
  unfold zmk
  split
  · omega
  · split
    · omega
    · split <;> omega
def zMKs (σ : zS) (k : Int) : zS := if k = 3 then zbg (zbg (zbg σ 22) 21) 20 else if k = 2 then zbg (zbg σ 21) 20 else zbg σ 20
def zMKv (σ : zS) (i k w : Int) : Int := if k = 3 then σ 21 i + 100 + w else if k = 2 then σ 21 i + 100 else σ 21 i
def zSZs (σ : zS) (k : Int) : zS := if k = 3 then zMKs (zbg (zbg (zbg (zbg σ 13) 12) 11) 10) 3 else if k = 2 then zbg (zbg (zbg σ 12) 11) 10 else if k = 1 then zbg (zbg σ 11) 10 else zbg σ 10
def zSZv (σ : zS) (i k w : Int) : Int := if k = 3 then 2 * (σ 20 (i + 1) - σ 20 i + σ 31 1560) + zMKv σ i 3 w else if k = 2 then 2 * (σ 20 (i + 1) - σ 20 i + σ 31 1560) else if k = 1 then σ 20 (i + 1) - σ 20 i + σ 31 1560 else σ 20 (i + 1) - σ 20 i
/-- what the asks look at -/
def zAQ (σ : zS) (i : Int) : Prop := (0 ≤ i ∧ i < 40) ∧ 0 ≤ σ 0 10 ∧ (0 ≤ σ 21 i ∧ σ 21 i ≤ 40) ∧ (0 ≤ σ 20 i ∧ σ 20 i ≤ 40 ∧ 0 ≤ σ 20 (i + 1) ∧ σ 20 (i + 1) ≤ 40) ∧ (0 ≤ σ 4 3 ∧ σ 4 3 ≤ 30) ∧ (0 ≤ σ 30 312 ∧ σ 30 312 ≤ 5) ∧ ∀ j : Int, 0 ≤ j → j < 5 → j < σ 30 312 → 0 ≤ σ 31 (1560 + j) ∧ σ 31 (1560 + j) ≤ 2000
theorem zAQ.bg {σ : zS} {i b : Int} (h : zAQ σ i) : zAQ (zbg σ b) i := by
  have h2 := zbg_n (b := b) h.2.1
  unfold zAQ at *
  rw [zbg_o (k := 21) (by decide) (by decide), zbg_o (k := 20) (by decide) (by decide), zbg_o (k := 4) (by decide) (by decide), zbg_o (k := 30) (by decide) (by decide), zbg_o (k := 31) (by decide) (by decide)]
  exact ⟨h.1, h2, h.2.2⟩
theorem zplace_bg {σ : zS} {x w b : Int} : zplace (zbg σ b) x w ↔ zplace σ x w := by
  unfold zplace
  rw [zbg_o (k := 4) (by decide) (by decide), zbg_o (k := 28) (by decide) (by decide)]
theorem zmk_bg {σ : zS} {w b : Int} : zmk (zbg σ b) w = zmk σ w := by
  unfold zmk
  rw [zbg_o (k := 30) (by decide) (by decide), zbg_o (k := 31) (by decide) (by decide)]
theorem zplace_u {σ : zS} {x w w' : Int} (h : zplace σ x w) (h' : zplace σ x w') : w = w' := by
  rcases h with ⟨a, b, c, d⟩ | ⟨a, b⟩ <;> rcases h' with ⟨a', b', c', d'⟩ | ⟨a', b'⟩
  · rcases Int.lt_trichotomy w w' with q | q | q
    · exact absurd c (d' w a q)
    · exact q
    · exact absurd c' (d w' a' q)
  · exact absurd c (b' w a b)
  · exact absurd c' (b w' a' b')
  · rw [a, a']
set_option maxRecDepth 100000 in
set_option maxHeartbeats 4000000 in
theorem am_X8_inkMark {σ : zS} {i : Int} (hQ : zAQ σ i) : zAM 100 [.inr (.inr (0, 0)), .inl i] σ (fun (v : Int) (u : zS) => (zbg σ 20) = u ∧ σ 21 i = v) := by
  refine zam (by decide) (Nat.le_of_ble_eq_true rfl) ?_
  refine zwalk zmk_100 [] 2 ?_
  show (∃ Rc : Int → zS → Prop, zAM 93 [.inr (.inr (0, 0)), .inl (20 : Int)] σ Rc ∧ ∀ (u1 : zS), Rc 0 u1 → ((0 ≤ i ∧ i < (40 : Int)) ∧ ((zbg σ 20) = u1 ∧ σ 21 i = (u1 21 i))))
  refine ⟨_, am_X8_begin (by first | exact hQ.2.1 | exact hQ.bg.2.1), ?_⟩
  intro u1
  intro kv1
  obtain rfl := (show zbg _ _ = u1 from kv1)
  refine ⟨by ((have h9 := hQ; unfold zAQ at h9; omega)), ?_⟩
  exact ⟨rfl, by rw [zbg_o (by decide) (by decide)]⟩
set_option maxRecDepth 100000 in
set_option maxHeartbeats 4000000 in
theorem am_X8_sureMark {σ : zS} {i : Int} (hQ : zAQ σ i) : zAM 101 [.inr (.inr (0, 0)), .inl i] σ (fun (v : Int) (u : zS) => (zbg (zbg σ 21) 20) = u ∧ σ 21 i + 100 = v) := by
  refine zam (by decide) (Nat.le_of_ble_eq_true rfl) ?_
  refine zwalk zmk_101 [] 2 ?_
  show (∃ Rc : Int → zS → Prop, zAM 93 [.inr (.inr (0, 0)), .inl (21 : Int)] σ Rc ∧ ∀ (u1 : zS), Rc 0 u1 → (∃ Rc : Int → zS → Prop, zAM 100 [.inr (.inr (0, 0)), .inl i] u1 Rc ∧ ∀ (v2 : Int) (u2 : zS), zI v2 → Rc v2 u2 → (zI (v2 + (100 : Int)) ∧ ((zbg (zbg σ 21) 20) = u2 ∧ σ 21 i + 100 = (v2 + (100 : Int))))))
  refine ⟨_, am_X8_begin (by first | exact hQ.2.1 | exact hQ.bg.2.1), ?_⟩
  intro u1
  intro kv1
  obtain rfl := (show zbg _ _ = u1 from kv1)
  refine ⟨_, am_X8_inkMark (hQ.bg), ?_⟩
  intro v2 u2 hv2
  intro kv2
  obtain ⟨hv2a, hv2b⟩ := hv2
  obtain ⟨rfl, wv2⟩ := kv2
  rw [zbg_o (by decide) (by decide)] at wv2
  have h99 := hQ.2.2.1
  refine ⟨by (exact ⟨by omega, by omega⟩), ?_⟩
  exact ⟨rfl, by omega⟩
set_option maxRecDepth 100000 in
set_option maxHeartbeats 4000000 in
theorem am_X8_listedMark {σ : zS} {i : Int} (hQ : zAQ σ i) : zAM 102 [.inr (.inr (0, 0)), .inl i] σ (fun (v : Int) (u : zS) => (zbg (zbg (zbg σ 22) 21) 20) = u ∧ ∃ w : Int, zplace σ (σ 32 1560) w ∧ σ 21 i + 100 + w = v) := by
  refine zam (by decide) (Nat.le_of_ble_eq_true rfl) ?_
  refine zwalk zmk_102 [] 2 ?_
  show (∃ Rc : Int → zS → Prop, zAM 93 [.inr (.inr (0, 0)), .inl (22 : Int)] σ Rc ∧ ∀ (u1 : zS), Rc 0 u1 → (∃ Rc : Int → zS → Prop, zAM 101 [.inr (.inr (0, 0)), .inl i] u1 Rc ∧ ∀ (v2 : Int) (u2 : zS), zI v2 → Rc v2 u2 → (∃ Rc : Int → zS → Prop, zAM 37 [.inr (.inr (6, 0)), .inl (0 : Int)] u2 Rc ∧ ∀ (v3 : Int) (u3 : zS), zJ v3 → Rc v3 u3 → (∃ Rc : Int → zS → Prop, zAM 49 [.inr (.inr (4, 0)), .inr (.inl v3)] u3 Rc ∧ ∀ (v4 : Int) (u4 : zS), zI v4 → Rc v4 u4 → (zI (v2 + v4) ∧ ((zbg (zbg (zbg σ 22) 21) 20) = u4 ∧ ∃ w : Int, zplace σ (σ 32 1560) w ∧ σ 21 i + 100 + w = (v2 + v4)))))))
  refine ⟨_, am_X8_begin (by first | exact hQ.2.1 | exact hQ.bg.2.1), ?_⟩
  intro u1
  intro kv1
  obtain rfl := (show zbg _ _ = u1 from kv1)
  refine ⟨_, am_X8_sureMark (hQ.bg), ?_⟩
  intro v2 u2 hv2
  intro kv2
  obtain ⟨hv2a, hv2b⟩ := hv2
  obtain ⟨rfl, wv2⟩ := kv2
  rw [zbg_o (by decide) (by decide)] at wv2
  have h99 := hQ.2.2.1
  refine ⟨_, am_X4_word (by decide), ?_⟩
  intro v3 u3 hv3
  intro kv3
  obtain ⟨hv3a, hv3b⟩ := hv3
  obtain ⟨rfl, wv3⟩ := kv3
  refine ⟨_, am_X7_placeOf (hQ.bg.bg.bg.2.2.2.2.1), ?_⟩
  intro v4 u4 hv4
  intro kv4
  obtain ⟨hv4a, hv4b⟩ := hv4
  obtain ⟨rfl, wv4⟩ := kv4
  rw [zplace_bg, zplace_bg, zplace_bg, ← wv3] at wv4
  rw [zbg_o (k := 32) (by decide) (by decide), zbg_o (k := 32) (by decide) (by decide), zbg_o (k := 32) (by decide) (by decide)] at wv4
  have h98 : -1 ≤ v4 ∧ v4 ≤ 30 := by have h97 := hQ.2.2.2.2.1; rcases wv4 with ⟨a, b, -⟩ | ⟨a, -⟩ <;> omega
  refine ⟨by (exact ⟨by omega, by omega⟩), ?_⟩
  exact ⟨rfl, _, wv4, by omega⟩
set_option maxRecDepth 100000 in
set_option maxHeartbeats 4000000 in
theorem am_X8_inkSize {σ : zS} {i : Int} (hQ : zAQ σ i) : zAM 95 [.inr (.inr (0, 0)), .inl i] σ (fun (v : Int) (u : zS) => (zbg σ 10) = u ∧ σ 20 (i + 1) - σ 20 i = v) := by
  refine zam (by decide) (Nat.le_of_ble_eq_true rfl) ?_
  refine zwalk zmk_95 [] 2 ?_
  show (∃ Rc : Int → zS → Prop, zAM 93 [.inr (.inr (0, 0)), .inl (10 : Int)] σ Rc ∧ ∀ (u1 : zS), Rc 0 u1 → (∃ Rc : Int → zS → Prop, zAM 21 [.inr (.inr (2, 0)), .inl i] u1 Rc ∧ ∀ (v2 : Int) (u2 : zS), zI v2 → Rc v2 u2 → ((zbg σ 10) = u2 ∧ σ 20 (i + 1) - σ 20 i = v2)))
  refine ⟨_, am_X8_begin (by first | exact hQ.2.1 | exact hQ.bg.2.1), ?_⟩
  intro u1
  intro kv1
  obtain rfl := (show zbg _ _ = u1 from kv1)
  refine ⟨_, am_X2_piecesOf (hQ.1) (hQ.bg.2.2.2.1 |> fun z => ⟨z.1, z.2.1⟩) (hQ.bg.2.2.2.1.2.2), ?_⟩
  intro v2 u2 hv2
  intro kv2
  obtain ⟨hv2a, hv2b⟩ := hv2
  obtain ⟨rfl, wv2⟩ := kv2
  rw [zbg_o (by decide) (by decide)] at wv2
  exact ⟨rfl, by omega⟩
set_option maxRecDepth 100000 in
set_option maxHeartbeats 4000000 in
theorem am_X8_readSize {σ : zS} {i : Int} (hQ : zAQ σ i) (h1 : 0 ≤ σ 31 1560 ∧ σ 31 1560 ≤ 2000) : zAM 96 [.inr (.inr (0, 0)), .inl i] σ (fun (v : Int) (u : zS) => (zbg (zbg σ 11) 10) = u ∧ σ 20 (i + 1) - σ 20 i + σ 31 1560 = v) := by
  refine zam (by decide) (Nat.le_of_ble_eq_true rfl) ?_
  refine zwalk zmk_96 [] 2 ?_
  show (∃ Rc : Int → zS → Prop, zAM 93 [.inr (.inr (0, 0)), .inl (11 : Int)] σ Rc ∧ ∀ (u1 : zS), Rc 0 u1 → (∃ Rc : Int → zS → Prop, zAM 95 [.inr (.inr (0, 0)), .inl i] u1 Rc ∧ ∀ (v2 : Int) (u2 : zS), zI v2 → Rc v2 u2 → (∃ Rc : Int → zS → Prop, zAM 36 [.inr (.inr (6, 0)), .inl (0 : Int)] u2 Rc ∧ ∀ (v3 : Int) (u3 : zS), zI v3 → Rc v3 u3 → (zI (v2 + v3) ∧ ((zbg (zbg σ 11) 10) = u3 ∧ σ 20 (i + 1) - σ 20 i + σ 31 1560 = (v2 + v3))))))
  have h95 := h1
  have h96 := hQ.2.2.2.1
  refine ⟨_, am_X8_begin (by first | exact hQ.2.1 | exact hQ.bg.2.1), ?_⟩
  intro u1
  intro kv1
  obtain rfl := (show zbg _ _ = u1 from kv1)
  refine ⟨_, am_X8_inkSize (hQ.bg), ?_⟩
  intro v2 u2 hv2
  intro kv2
  obtain ⟨hv2a, hv2b⟩ := hv2
  obtain ⟨rfl, wv2⟩ := kv2
  rw [zbg_o (k := 20) (by decide) (by decide)] at wv2
  refine ⟨_, am_X4_cost (by decide), ?_⟩
  intro v3 u3 hv3
  intro kv3
  obtain ⟨hv3a, hv3b⟩ := hv3
  obtain ⟨rfl, wv3⟩ := kv3
  rw [zbg_o (k := 31) (by decide) (by decide), zbg_o (k := 31) (by decide) (by decide)] at wv3
  have w36 : σ 31 1560 = v3 := wv3
  refine ⟨by (exact ⟨by omega, by omega⟩), ?_⟩
  exact ⟨rfl, by omega⟩
set_option maxRecDepth 100000 in
set_option maxHeartbeats 4000000 in
theorem am_X8_sureSize {σ : zS} {i : Int} (hQ : zAQ σ i) (h1 : 0 ≤ σ 31 1560 ∧ σ 31 1560 ≤ 2000) : zAM 97 [.inr (.inr (0, 0)), .inl i] σ (fun (v : Int) (u : zS) => (zbg (zbg (zbg σ 12) 11) 10) = u ∧ 2 * (σ 20 (i + 1) - σ 20 i + σ 31 1560) = v) := by
  refine zam (by decide) (Nat.le_of_ble_eq_true rfl) ?_
  refine zwalk zmk_97 [] 2 ?_
  show (∃ Rc : Int → zS → Prop, zAM 93 [.inr (.inr (0, 0)), .inl (12 : Int)] σ Rc ∧ ∀ (u1 : zS), Rc 0 u1 → (∃ Rc : Int → zS → Prop, zAM 96 [.inr (.inr (0, 0)), .inl i] u1 Rc ∧ ∀ (v2 : Int) (u2 : zS), zI v2 → Rc v2 u2 → (zI ((2 : Int) * v2) ∧ ((zbg (zbg (zbg σ 12) 11) 10) = u2 ∧ 2 * (σ 20 (i + 1) - σ 20 i + σ 31 1560) = ((2 : Int) * v2)))))
  have h95 := h1
  have h96 := hQ.2.2.2.1
  refine ⟨_, am_X8_begin (by first | exact hQ.2.1 | exact hQ.bg.2.1), ?_⟩
  intro u1
  intro kv1
  obtain rfl := (show zbg _ _ = u1 from kv1)
  refine ⟨_, am_X8_readSize (hQ.bg) (by rw [zbg_o (k := 31) (by decide) (by decide)]; exact h95), ?_⟩
  intro v2 u2 hv2
  intro kv2
  obtain ⟨hv2a, hv2b⟩ := hv2
  obtain ⟨rfl, wv2⟩ := kv2
  rw [zbg_o (k := 20) (by decide) (by decide), zbg_o (k := 31) (by decide) (by decide)] at wv2
  refine ⟨by (exact ⟨by omega, by omega⟩), ?_⟩
  exact ⟨rfl, by omega⟩
set_option maxRecDepth 100000 in
set_option maxHeartbeats 4000000 in
theorem am_X8_askMark {σ : zS} {i : Int} (hQ : zAQ σ i) : zAM 99 [.inr (.inr (0, 0)), .inl i] σ (fun (v : Int) (u : zS) => ∃ w : Int, zplace σ (σ 32 1560) w ∧ zMKs σ (zmk σ w) = u ∧ zMKv σ i (zmk σ w) w = v) := by
  refine zam (by decide) (Nat.le_of_ble_eq_true rfl) ?_
  refine zwalk zmk_99 [] 3 ?_
  show (∃ Rc : Int → zS → Prop, zAM 92 [.inr (.inr (0, 0))] σ Rc ∧ ∀ (v1 : Int) (u1 : zS), zI v1 → Rc v1 u1 → (((v1 = (2 : Int) → (∃ Rc : Int → zS → Prop, zAM 101 [.inr (.inr (0, 0)), .inl i] u1 Rc ∧ ∀ (v3 : Int) (u3 : zS), zI v3 → Rc v3 u3 → (∃ w : Int, zplace σ (σ 32 1560) w ∧ zMKs σ (zmk σ w) = u3 ∧ zMKv σ i (zmk σ w) w = v3))) ∧ ((v1 = (3 : Int) → (∃ Rc : Int → zS → Prop, zAM 102 [.inr (.inr (0, 0)), .inl i] u1 Rc ∧ ∀ (v2 : Int) (u2 : zS), zI v2 → Rc v2 u2 → (∃ w : Int, zplace σ (σ 32 1560) w ∧ zMKs σ (zmk σ w) = u2 ∧ zMKv σ i (zmk σ w) w = v2))) ∧ True)) ∧ ((¬ v1 = (2 : Int) ∧ (¬ v1 = (3 : Int) ∧ True)) → (∃ Rc : Int → zS → Prop, zAM 100 [.inr (.inr (0, 0)), .inl i] u1 Rc ∧ ∀ (v4 : Int) (u4 : zS), zI v4 → Rc v4 u4 → (∃ w : Int, zplace σ (σ 32 1560) w ∧ zMKs σ (zmk σ w) = u4 ∧ zMKv σ i (zmk σ w) w = v4)))))
  refine ⟨_, am_X8_kindInHand (hQ.2.2.2.2.2.1) (hQ.2.2.2.2.1) (hQ.2.2.2.2.2.2), ?_⟩
  intro v1 u1 hv1
  intro kv1
  obtain ⟨hv1a, hv1b⟩ := hv1
  obtain ⟨rfl, w0, w1, w2⟩ := kv1
  have wk : zmk σ w0 = v1 := w2
  refine ⟨?_, ?_⟩
  · refine ⟨?_, ?_⟩
    · intro h1
      refine ⟨_, am_X8_sureMark (hQ), ?_⟩
      intro v3 u3 hv3
      intro kv3
      obtain ⟨hv3a, hv3b⟩ := hv3
      obtain ⟨rfl, w7⟩ := kv3
      refine ⟨w0, w1, ?_, ?_⟩
      · rw [wk]; unfold zMKs
        first | (rw [if_pos (by omega)]) | (rw [if_neg (by omega), if_pos (by omega)]) | (rw [if_neg (by omega), if_neg (by omega)])
      · rw [wk]; unfold zMKv
        first | (rw [if_pos (by omega)]; exact w7) | (rw [if_neg (by omega), if_pos (by omega)]; exact w7) | (rw [if_neg (by omega), if_neg (by omega)]; exact w7)
    · refine ⟨?_, ?_⟩
      · intro h2
        refine ⟨_, am_X8_listedMark (hQ), ?_⟩
        intro v2 u2 hv2
        intro kv2
        obtain ⟨hv2a, hv2b⟩ := hv2
        obtain ⟨rfl, w5, w6, w7⟩ := kv2
        have w8 := zplace_u w1 w6
        rw [← w8] at w7
        refine ⟨w0, w1, ?_, ?_⟩
        · rw [wk]; unfold zMKs
          first | (rw [if_pos (by omega)]) | (rw [if_neg (by omega), if_pos (by omega)]) | (rw [if_neg (by omega), if_neg (by omega)])
        · rw [wk]; unfold zMKv
          first | (rw [if_pos (by omega)]; exact w7) | (rw [if_neg (by omega), if_pos (by omega)]; exact w7) | (rw [if_neg (by omega), if_neg (by omega)]; exact w7)
      · trivial
  · intro h3
    refine ⟨_, am_X8_inkMark (hQ), ?_⟩
    intro v4 u4 hv4
    intro kv4
    obtain ⟨hv4a, hv4b⟩ := hv4
    obtain ⟨rfl, w7⟩ := kv4
    refine ⟨w0, w1, ?_, ?_⟩
    · rw [wk]; unfold zMKs
      first | (rw [if_pos (by omega)]) | (rw [if_neg (by omega), if_pos (by omega)]) | (rw [if_neg (by omega), if_neg (by omega)])
    · rw [wk]; unfold zMKv
      first | (rw [if_pos (by omega)]; exact w7) | (rw [if_neg (by omega), if_pos (by omega)]; exact w7) | (rw [if_neg (by omega), if_neg (by omega)]; exact w7)
