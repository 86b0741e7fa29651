theorem zcp_0 {σ : zS} {s d : Nat} {so o : Int} : zcp σ s so d o 0 = σ := by
  funext k' i
  exact if_neg (by omega)
theorem zcp_s {σ : zS} {s d : Nat} {so o m v : Int} (h : 0 ≤ m) (hv : v = σ s (so + m)) : zup (zcp σ s so d o m) d (o + m) v = zcp σ s so d o (m + 1) := by
  subst hv
  funext k' i
  simp only [zup, zcp]
  by_cases e : k' = d
  · rw [if_pos e]
    by_cases f : i = o + m
    · rw [if_pos f, if_pos ⟨e, by omega, by omega⟩, f, show o + m - o = m by omega]
    · rw [if_neg f]
      by_cases g : o ≤ i ∧ i < o + m
      · rw [if_pos ⟨e, g⟩, if_pos ⟨e, by omega, by omega⟩]
      · rw [if_neg (fun q => g q.2), if_neg (fun q => by omega)]
  · rw [if_neg e, if_neg (fun q => e q.1), if_neg (fun q => e q.1)]
theorem zcp_o {σ : zS} {s d k' : Nat} {so o m : Int} (h : k' ≠ d) : zcp σ s so d o m k' = σ k' := by
  funext i
  exact if_neg (fun q => h q.1)
theorem zsh_r {m a b c : Int} (h : 1 ≤ m ∧ m ≤ 3 ∧ 0 ≤ a ∧ a < 12 ∧ (m < 2 ∨ 0 ≤ b ∧ b < 12) ∧ (m < 3 ∨ 0 ≤ c ∧ c < 12)) : 0 ≤ zsh m a b c ∧ zsh m a b c < 1884 := by
  unfold zsh
  split
  · omega
  · split
    · omega
    · omega
/-- the letters of the word of the list at w are m letters g -/
def zwm (σ : zS) (m : Int) (g : Int → Int) (w : Int) : Prop := σ 51 w = m ∧ ∀ k : Int, 0 ≤ k → k < m → σ 52 (12 * w + k) = g k
def zfil (σ : zS) (m : Int) (g : Int → Int) (v : Int) : Prop := (0 ≤ v ∧ v < σ 9 22 ∧ zwm σ m g v ∧ ∀ j : Int, 0 ≤ j → j < v → ¬ zwm σ m g j) ∨ v = -1000000 ∧ ∀ j : Int, 0 ≤ j → j < σ 9 22 → ¬ zwm σ m g j
set_option maxRecDepth 100000 in
set_option maxHeartbeats 4000000 in
theorem am_X8_letter {σ : zS} {f : Nat → Int} {m : Nat} {l : Int} (hf : zlet f m) (hw1 : σ 4 0 = zlc f m) (hw2 : σ 4 1 = (m : Int)) : zAM 62 [.inr (.inr (0, 0)), .inl l] σ (fun (v : Int) (u : zS) => ((¬ (0 ≤ l ∧ l < 26)) ∧ σ = u ∧ -1000001 = v) ∨ (((0 ≤ l ∧ l < 26) ∧ 12 ≤ (m : Int)) ∧ σ = u ∧ -1000003 = v) ∨ (((0 ≤ l ∧ l < 26) ∧ (m : Int) < 12) ∧ zup (zup σ 4 0 (zlc f m + (l + 1) * 32 ^ (11 - (m : Int)).toNat)) 4 1 ((m : Int) + 1) = u ∧ (m : Int) + 1 = v)) := by
  refine zam (by decide) (Nat.le_of_ble_eq_true rfl) ?_
  refine zwalk zmk_62 [] 4 ?_
  show (∃ Rc : Int → zS → Prop, zAM 80 [.inl l] σ Rc ∧ ∀ (v1 : Int) (u1 : zS), zI v1 → Rc v1 u1 → ((¬ v1 = 0 → (((u1 4 (1 : Int)) < (12 : Int) → (∃ Rc : Int → zS → Prop, zAM 47 [.inr (.inr (4, 0)), .inl l] u1 Rc ∧ ∀ (u2 : zS), Rc 0 u2 → (((¬ (0 ≤ l ∧ l < 26)) ∧ σ = u2 ∧ -1000001 = (u2 4 (1 : Int))) ∨ (((0 ≤ l ∧ l < 26) ∧ 12 ≤ (m : Int)) ∧ σ = u2 ∧ -1000003 = (u2 4 (1 : Int))) ∨ (((0 ≤ l ∧ l < 26) ∧ (m : Int) < 12) ∧ zup (zup σ 4 0 (zlc f m + (l + 1) * 32 ^ (11 - (m : Int)).toNat)) 4 1 ((m : Int) + 1) = u2 ∧ (m : Int) + 1 = (u2 4 (1 : Int)))))) ∧ ((12 : Int) ≤ (u1 4 (1 : Int)) → (((¬ (0 ≤ l ∧ l < 26)) ∧ σ = u1 ∧ -1000001 = (-1000003 : Int)) ∨ (((0 ≤ l ∧ l < 26) ∧ 12 ≤ (m : Int)) ∧ σ = u1 ∧ -1000003 = (-1000003 : Int)) ∨ (((0 ≤ l ∧ l < 26) ∧ (m : Int) < 12) ∧ zup (zup σ 4 0 (zlc f m + (l + 1) * 32 ^ (11 - (m : Int)).toNat)) 4 1 ((m : Int) + 1) = u1 ∧ (m : Int) + 1 = (-1000003 : Int)))))) ∧ (v1 = 0 → (((¬ (0 ≤ l ∧ l < 26)) ∧ σ = u1 ∧ -1000001 = (-1000001 : Int)) ∨ (((0 ≤ l ∧ l < 26) ∧ 12 ≤ (m : Int)) ∧ σ = u1 ∧ -1000003 = (-1000001 : Int)) ∨ (((0 ≤ l ∧ l < 26) ∧ (m : Int) < 12) ∧ zup (zup σ 4 0 (zlc f m + (l + 1) * 32 ^ (11 - (m : Int)).toNat)) 4 1 ((m : Int) + 1) = u1 ∧ (m : Int) + 1 = (-1000001 : Int))))))
  refine ⟨_, am_X8_isLetter, ?_⟩
  intro v1 u1 hv1
  rintro ⟨rfl, (⟨rfl, cv1⟩ | ⟨rfl, cv1⟩)⟩
  · refine ⟨?_, ?_⟩
    · intro _
      refine ⟨?_, ?_⟩
      · intro h2
        refine ⟨_, am_X7_append (hf) (by omega) (by omega) (hw1) (hw2), ?_⟩
        intro u2
        rintro rfl
        first | exact (Or.inl ⟨by omega, rfl, rfl⟩) | exact (Or.inr (Or.inl ⟨by omega, rfl, rfl⟩)) | exact (Or.inr (Or.inr ⟨by omega, rfl, rfl⟩))
      · intro h3
        first | exact (Or.inl ⟨by omega, rfl, rfl⟩) | exact (Or.inr (Or.inl ⟨by omega, rfl, rfl⟩)) | exact (Or.inr (Or.inr ⟨by omega, rfl, rfl⟩))
    · exact fun h => absurd h (by decide)
  · refine ⟨?_, ?_⟩
    · exact fun h => absurd h (by decide)
    · intro _
      first | exact (Or.inl ⟨by omega, rfl, rfl⟩) | exact (Or.inr (Or.inl ⟨by omega, rfl, rfl⟩)) | exact (Or.inr (Or.inr ⟨by omega, rfl, rfl⟩))
set_option maxRecDepth 100000 in
set_option maxHeartbeats 4000000 in
theorem am_X8_list {σ : zS} (hf : 0 ≤ σ 4 3 ∧ σ 4 3 ≤ 30) : zAM 63 [.inr (.inr (0, 0))] σ (fun (v : Int) (u : zS) => (((σ 4 1 = 0) ∧ σ = u ∧ -1000002 = v) ∨ (¬ σ 4 1 = 0 ∧ ∃ w : Int, zplace σ (σ 4 0) w ∧ ((0 ≤ w ∧ σ = u ∧ -1000002 = v) ∨ (w < 0 ∧ 30 ≤ σ 4 3 ∧ σ = u ∧ -1000003 = v) ∨ (w < 0 ∧ σ 4 3 < 30 ∧ zup (zup (zup (zup σ 28 (σ 4 3) (σ 4 0)) 4 3 (σ 4 3 + 1)) 4 0 0) 4 1 0 = u ∧ σ 4 3 = v))))) := by
  refine zam (by decide) (Nat.le_of_ble_eq_true rfl) ?_
  refine zwalk zmk_63 [] 4 ?_
  show (((σ 4 (1 : Int)) = 0 → ((((σ 4 1 = 0) ∧ σ = σ ∧ -1000002 = (-1000002 : Int)) ∨ (¬ σ 4 1 = 0 ∧ ∃ w : Int, zplace σ (σ 4 0) w ∧ ((0 ≤ w ∧ σ = σ ∧ -1000002 = (-1000002 : Int)) ∨ (w < 0 ∧ 30 ≤ σ 4 3 ∧ σ = σ ∧ -1000003 = (-1000002 : Int)) ∨ (w < 0 ∧ σ 4 3 < 30 ∧ zup (zup (zup (zup σ 28 (σ 4 3) (σ 4 0)) 4 3 (σ 4 3 + 1)) 4 0 0) 4 1 0 = σ ∧ σ 4 3 = (-1000002 : Int))))))) ∧ (¬ (σ 4 (1 : Int)) = 0 → (∃ Rc : Int → zS → Prop, zAM 49 [.inr (.inr (4, 0)), .inr (.inl (σ 4 (0 : Int)))] σ Rc ∧ ∀ (v1 : Int) (u1 : zS), zI v1 → Rc v1 u1 → ((v1 < 0 → (((u1 4 (3 : Int)) < (30 : Int) → ((0 ≤ (u1 4 (3 : Int)) ∧ (u1 4 (3 : Int)) < (30 : Int)) ∧ (zI ((u1 4 (3 : Int)) + (1 : Int)) ∧ (∃ Rc : Int → zS → Prop, zAM 48 [.inr (.inr (4, 0))] (zup (zup u1 28 (u1 4 (3 : Int)) (u1 4 (0 : Int))) 4 (3 : Int) ((u1 4 (3 : Int)) + (1 : Int))) Rc ∧ ∀ (v2 : Int) (u2 : zS), zI v2 → Rc v2 u2 → ((((σ 4 1 = 0) ∧ σ = u2 ∧ -1000002 = (u1 4 (3 : Int))) ∨ (¬ σ 4 1 = 0 ∧ ∃ w : Int, zplace σ (σ 4 0) w ∧ ((0 ≤ w ∧ σ = u2 ∧ -1000002 = (u1 4 (3 : Int))) ∨ (w < 0 ∧ 30 ≤ σ 4 3 ∧ σ = u2 ∧ -1000003 = (u1 4 (3 : Int))) ∨ (w < 0 ∧ σ 4 3 < 30 ∧ zup (zup (zup (zup σ 28 (σ 4 3) (σ 4 0)) 4 3 (σ 4 3 + 1)) 4 0 0) 4 1 0 = u2 ∧ σ 4 3 = (u1 4 (3 : Int))))))))))) ∧ ((30 : Int) ≤ (u1 4 (3 : Int)) → ((((σ 4 1 = 0) ∧ σ = u1 ∧ -1000002 = (-1000003 : Int)) ∨ (¬ σ 4 1 = 0 ∧ ∃ w : Int, zplace σ (σ 4 0) w ∧ ((0 ≤ w ∧ σ = u1 ∧ -1000002 = (-1000003 : Int)) ∨ (w < 0 ∧ 30 ≤ σ 4 3 ∧ σ = u1 ∧ -1000003 = (-1000003 : Int)) ∨ (w < 0 ∧ σ 4 3 < 30 ∧ zup (zup (zup (zup σ 28 (σ 4 3) (σ 4 0)) 4 3 (σ 4 3 + 1)) 4 0 0) 4 1 0 = u1 ∧ σ 4 3 = (-1000003 : Int))))))))) ∧ (0 ≤ v1 → ((((σ 4 1 = 0) ∧ σ = u1 ∧ -1000002 = (-1000002 : Int)) ∨ (¬ σ 4 1 = 0 ∧ ∃ w : Int, zplace σ (σ 4 0) w ∧ ((0 ≤ w ∧ σ = u1 ∧ -1000002 = (-1000002 : Int)) ∨ (w < 0 ∧ 30 ≤ σ 4 3 ∧ σ = u1 ∧ -1000003 = (-1000002 : Int)) ∨ (w < 0 ∧ σ 4 3 < 30 ∧ zup (zup (zup (zup σ 28 (σ 4 3) (σ 4 0)) 4 3 (σ 4 3 + 1)) 4 0 0) 4 1 0 = u1 ∧ σ 4 3 = (-1000002 : Int)))))))))))
  refine ⟨?_, ?_⟩
  · intro h1
    first | exact Or.inl ⟨by omega, rfl, rfl⟩ | exact Or.inr ⟨by omega, _, by assumption, Or.inl ⟨by omega, rfl, rfl⟩⟩ | exact Or.inr ⟨by omega, _, by assumption, Or.inr (Or.inl ⟨by omega, by omega, rfl, rfl⟩)⟩ | exact Or.inr ⟨by omega, _, by assumption, Or.inr (Or.inr ⟨by omega, by omega, rfl, rfl⟩)⟩
  · intro h2
    refine ⟨_, am_X7_placeOf (hf), ?_⟩
    intro v1 u1 hv1
    rintro ⟨rfl, ev1⟩
    obtain ⟨hv1a, hv1b⟩ := hv1
    refine ⟨?_, ?_⟩
    · intro h3
      refine ⟨?_, ?_⟩
      · intro h4
        refine ⟨by (first | exact ⟨by omega, by omega⟩ | (exfalso; omega)), ?_⟩
        refine ⟨by (first | exact ⟨by omega, by omega⟩ | (exfalso; omega)), ?_⟩
        refine ⟨_, am_X7_clear, ?_⟩
        intro v2 u2 hv2
        rintro ⟨rfl, rfl⟩
        obtain ⟨hv2a, hv2b⟩ := hv2
        first | exact Or.inl ⟨by omega, rfl, rfl⟩ | exact Or.inr ⟨by omega, _, by assumption, Or.inl ⟨by omega, rfl, rfl⟩⟩ | exact Or.inr ⟨by omega, _, by assumption, Or.inr (Or.inl ⟨by omega, by omega, rfl, rfl⟩)⟩ | exact Or.inr ⟨by omega, _, by assumption, Or.inr (Or.inr ⟨by omega, by omega, rfl, rfl⟩)⟩
      · intro h5
        first | exact Or.inl ⟨by omega, rfl, rfl⟩ | exact Or.inr ⟨by omega, _, by assumption, Or.inl ⟨by omega, rfl, rfl⟩⟩ | exact Or.inr ⟨by omega, _, by assumption, Or.inr (Or.inl ⟨by omega, by omega, rfl, rfl⟩)⟩ | exact Or.inr ⟨by omega, _, by assumption, Or.inr (Or.inr ⟨by omega, by omega, rfl, rfl⟩)⟩
    · intro h6
      first | exact Or.inl ⟨by omega, rfl, rfl⟩ | exact Or.inr ⟨by omega, _, by assumption, Or.inl ⟨by omega, rfl, rfl⟩⟩ | exact Or.inr ⟨by omega, _, by assumption, Or.inr (Or.inl ⟨by omega, by omega, rfl, rfl⟩)⟩ | exact Or.inr ⟨by omega, _, by assumption, Or.inr (Or.inr ⟨by omega, by omega, rfl, rfl⟩)⟩
set_option maxRecDepth 100000 in
set_option maxHeartbeats 4000000 in
theorem am_X9_letter {σ : zS} {l : Int} (hm : 0 ≤ σ 9 25 ∧ σ 9 25 ≤ 12) : zAM 128 [.inr (.inr (9, 0)), .inl l] σ (fun (v : Int) (u : zS) => ((¬ (0 ≤ l ∧ l < 26)) ∧ σ = u ∧ -1000001 = v) ∨ (((0 ≤ l ∧ l < 26) ∧ σ 9 25 = 12) ∧ σ = u ∧ -1000003 = v) ∨ (((0 ≤ l ∧ l < 26) ∧ ¬ σ 9 25 = 12) ∧ zup (zup σ 53 (σ 9 25) l) 9 25 (σ 9 25 + 1) = u ∧ σ 9 25 + 1 = v)) := by
  refine zam (by decide) (Nat.le_of_ble_eq_true rfl) ?_
  refine zwalk zmk_128 [] 4 ?_
  show (∃ Rc : Int → zS → Prop, zAM 121 [.inl l] σ Rc ∧ ∀ (v1 : Int) (u1 : zS), zI v1 → Rc v1 u1 → ((¬ v1 = 0 → ((¬ (u1 9 (25 : Int)) = (12 : Int) → ((0 ≤ (u1 9 (25 : Int)) ∧ (u1 9 (25 : Int)) < (12 : Int)) ∧ (zI ((u1 9 (25 : Int)) + (1 : Int)) ∧ (((¬ (0 ≤ l ∧ l < 26)) ∧ σ = (zup (zup u1 53 (u1 9 (25 : Int)) l) 9 (25 : Int) ((u1 9 (25 : Int)) + (1 : Int))) ∧ -1000001 = ((u1 9 (25 : Int)) + (1 : Int))) ∨ (((0 ≤ l ∧ l < 26) ∧ σ 9 25 = 12) ∧ σ = (zup (zup u1 53 (u1 9 (25 : Int)) l) 9 (25 : Int) ((u1 9 (25 : Int)) + (1 : Int))) ∧ -1000003 = ((u1 9 (25 : Int)) + (1 : Int))) ∨ (((0 ≤ l ∧ l < 26) ∧ ¬ σ 9 25 = 12) ∧ zup (zup σ 53 (σ 9 25) l) 9 25 (σ 9 25 + 1) = (zup (zup u1 53 (u1 9 (25 : Int)) l) 9 (25 : Int) ((u1 9 (25 : Int)) + (1 : Int))) ∧ σ 9 25 + 1 = ((u1 9 (25 : Int)) + (1 : Int))))))) ∧ ((u1 9 (25 : Int)) = (12 : Int) → (((¬ (0 ≤ l ∧ l < 26)) ∧ σ = u1 ∧ -1000001 = (-1000003 : Int)) ∨ (((0 ≤ l ∧ l < 26) ∧ σ 9 25 = 12) ∧ σ = u1 ∧ -1000003 = (-1000003 : Int)) ∨ (((0 ≤ l ∧ l < 26) ∧ ¬ σ 9 25 = 12) ∧ zup (zup σ 53 (σ 9 25) l) 9 25 (σ 9 25 + 1) = u1 ∧ σ 9 25 + 1 = (-1000003 : Int)))))) ∧ (v1 = 0 → (((¬ (0 ≤ l ∧ l < 26)) ∧ σ = u1 ∧ -1000001 = (-1000001 : Int)) ∨ (((0 ≤ l ∧ l < 26) ∧ σ 9 25 = 12) ∧ σ = u1 ∧ -1000003 = (-1000001 : Int)) ∨ (((0 ≤ l ∧ l < 26) ∧ ¬ σ 9 25 = 12) ∧ zup (zup σ 53 (σ 9 25) l) 9 25 (σ 9 25 + 1) = u1 ∧ σ 9 25 + 1 = (-1000001 : Int))))))
  refine ⟨_, am_X9_isLetter, ?_⟩
  intro v1 u1 hv1
  rintro ⟨rfl, (⟨rfl, cv1⟩ | ⟨rfl, cv1⟩)⟩
  · refine ⟨?_, ?_⟩
    · intro _
      refine ⟨?_, ?_⟩
      · intro h2
        refine ⟨by (first | exact ⟨by omega, by omega⟩ | (exfalso; omega)), ?_⟩
        refine ⟨by (first | exact ⟨by omega, by omega⟩ | (exfalso; omega)), ?_⟩
        first | exact (Or.inl ⟨by omega, rfl, rfl⟩) | exact (Or.inr (Or.inl ⟨by omega, rfl, rfl⟩)) | exact (Or.inr (Or.inr ⟨by omega, rfl, rfl⟩))
      · intro h3
        first | exact (Or.inl ⟨by omega, rfl, rfl⟩) | exact (Or.inr (Or.inl ⟨by omega, rfl, rfl⟩)) | exact (Or.inr (Or.inr ⟨by omega, rfl, rfl⟩))
    · exact fun h => absurd h (by decide)
  · refine ⟨?_, ?_⟩
    · exact fun h => absurd h (by decide)
    · intro _
      first | exact (Or.inl ⟨by omega, rfl, rfl⟩) | exact (Or.inr (Or.inl ⟨by omega, rfl, rfl⟩)) | exact (Or.inr (Or.inr ⟨by omega, rfl, rfl⟩))
set_option maxRecDepth 100000 in
set_option maxHeartbeats 4000000 in
theorem lp_inl {w : Int} {σ : zS} (hm : 0 ≤ σ 9 25 ∧ σ 9 25 ≤ 12) (hl22 : 0 ≤ σ 9 22 ∧ σ 9 22 ≤ 30) (hw0 : 0 ≤ w ∧ w < σ 9 22) (hlow : ∀ j : Int, 0 ≤ j → j < w → ¬ zwm σ (σ 9 25) (σ 53) j) (K : ¬ zwm σ (σ 9 25) (σ 53) w → zRuns 129 zX0 (fun (v : Int) (u : zS) => σ = u ∧ zfil σ (σ 9 25) (σ 53) v) 2 [some (.inr (.inr (9, 0))), some (.inl (w + 1)), none, none] [] σ) : ∀ (n : Nat) (k : Int) (t : Int), σ 9 25 + 1 - k < (n : Int) → (0 ≤ k ∧ k ≤ σ 9 25) → ((t = 1 ∧ σ 51 w = σ 9 25 ∧ ∀ j : Int, 0 ≤ j → j < k → σ 52 (12 * w + j) = σ 53 j) ∨ (t = 0 ∧ ¬ zwm σ (σ 9 25) (σ 53) w)) → zRuns 129 zX0 (fun (v : Int) (u : zS) => σ = u ∧ zfil σ (σ 9 25) (σ 53) v) 31 [some (.inr (.inr (9, 0))), some (.inl w), some (.inl t), some (.inl k)] [] σ := by
  intro n
  induction n with
  | zero =>
    intro k t hn qk qt
    exfalso
    omega
  | succ n ih =>
    intro k t hn qk qt
    refine zwalk zmk_129 [(2, [true, true, false, false]), (31, [true, true, true, true])] 4 ?_
    show (((σ 9 (25 : Int)) ≤ k → ((t = 0 → (zI (w + (1 : Int)) ∧ zRuns 129 zX0 (fun (v : Int) (u : zS) => σ = u ∧ zfil σ (σ 9 25) (σ 53) v) 2 [some (.inr (.inr (9, 0))), some (.inl (w + (1 : Int))), none, none] [] σ)) ∧ (¬ t = 0 → (σ = σ ∧ zfil σ (σ 9 25) (σ 53) w)))) ∧ (k < (σ 9 (25 : Int)) → ((t = 0 → ((t = 0 → (zI (w + (1 : Int)) ∧ zRuns 129 zX0 (fun (v : Int) (u : zS) => σ = u ∧ zfil σ (σ 9 25) (σ 53) v) 2 [some (.inr (.inr (9, 0))), some (.inl (w + (1 : Int))), none, none] [] σ)) ∧ (¬ t = 0 → (σ = σ ∧ zfil σ (σ 9 25) (σ 53) w)))) ∧ (¬ t = 0 → (zI ((12 : Int) * w) ∧ (zI (((12 : Int) * w) + k) ∧ ((0 ≤ (((12 : Int) * w) + k) ∧ (((12 : Int) * w) + k) < (360 : Int)) ∧ ((0 ≤ k ∧ k < (12 : Int)) ∧ ((¬ (σ 52 (((12 : Int) * w) + k)) = (σ 53 k) → (zI (k + (1 : Int)) ∧ zRuns 129 zX0 (fun (v : Int) (u : zS) => σ = u ∧ zfil σ (σ 9 25) (σ 53) v) 31 [some (.inr (.inr (9, 0))), some (.inl w), some (.inl (0 : Int)), some (.inl (k + (1 : Int)))] [] σ)) ∧ ((σ 52 (((12 : Int) * w) + k)) = (σ 53 k) → (zI (k + (1 : Int)) ∧ zRuns 129 zX0 (fun (v : Int) (u : zS) => σ = u ∧ zfil σ (σ 9 25) (σ 53) v) 31 [some (.inr (.inr (9, 0))), some (.inl w), some (.inl (1 : Int)), some (.inl (k + (1 : Int)))] [] σ)))))))))))
    refine ⟨?_, ?_⟩
    · intro h1
      refine ⟨?_, ?_⟩
      · intro h2
        refine ⟨by (first | exact ⟨by omega, by omega⟩ | (exfalso; omega)), ?_⟩
        refine K (fun q => ?_)
        rcases qt with ⟨_, q1, q2⟩ | ⟨q1, q2⟩
        · omega
        · exact q2 q
      · intro h3
        first | (exfalso; omega) | (rcases qt with ⟨_, q1, q2⟩ | ⟨q1, q2⟩ <;> first | (exfalso; omega) | exact ⟨rfl, Or.inl ⟨by omega, by omega, ⟨q1, fun j a b => q2 j a (by omega)⟩, hlow⟩⟩)
    · intro h4
      refine ⟨?_, ?_⟩
      · intro h5
        refine ⟨?_, ?_⟩
        · intro h6
          refine ⟨by (first | exact ⟨by omega, by omega⟩ | (exfalso; omega)), ?_⟩
          refine K (fun q => ?_)
          rcases qt with ⟨_, q1, q2⟩ | ⟨q1, q2⟩
          · omega
          · exact q2 q
        · intro h7
          first | (exfalso; omega) | (rcases qt with ⟨_, q1, q2⟩ | ⟨q1, q2⟩ <;> first | (exfalso; omega) | exact ⟨rfl, Or.inl ⟨by omega, by omega, ⟨q1, fun j a b => q2 j a (by omega)⟩, hlow⟩⟩)
      · intro h8
        refine ⟨by (first | exact ⟨by omega, by omega⟩ | (exfalso; omega)), ?_⟩
        refine ⟨by (first | exact ⟨by omega, by omega⟩ | (exfalso; omega)), ?_⟩
        refine ⟨by (first | exact ⟨by omega, by omega⟩ | (exfalso; omega)), ?_⟩
        refine ⟨by (first | exact ⟨by omega, by omega⟩ | (exfalso; omega)), ?_⟩
        refine ⟨?_, ?_⟩
        · intro h9
          refine ⟨by (first | exact ⟨by omega, by omega⟩ | (exfalso; omega)), ?_⟩
          exact ih _ _ (by omega) (by omega) (Or.inr ⟨rfl, fun q => by have q2 := q.2 k (by omega) (by omega); contradiction⟩)
        · intro h10
          refine ⟨by (first | exact ⟨by omega, by omega⟩ | (exfalso; omega)), ?_⟩
          rcases qt with ⟨_, q1, q2⟩ | ⟨q1, _⟩
          · refine ih _ _ (by omega) (by omega) (Or.inl ⟨rfl, q1, fun j a b => ?_⟩)
            by_cases e : j = k
            · rw [e]; assumption
            · exact q2 j a (by omega)
          · exfalso; omega
set_option maxRecDepth 100000 in
set_option maxHeartbeats 4000000 in
theorem lp_inL {σ : zS} (hm : 0 ≤ σ 9 25 ∧ σ 9 25 ≤ 12) (hl22 : 0 ≤ σ 9 22 ∧ σ 9 22 ≤ 30) : ∀ (n : Nat) (w : Int), σ 9 22 + 1 - w < (n : Int) → (0 ≤ w ∧ w ≤ σ 9 22) → (∀ j : Int, 0 ≤ j → j < w → ¬ zwm σ (σ 9 25) (σ 53) j) → zRuns 129 zX0 (fun (v : Int) (u : zS) => σ = u ∧ zfil σ (σ 9 25) (σ 53) v) 2 [some (.inr (.inr (9, 0))), some (.inl w), none, none] [] σ := by
  intro n
  induction n with
  | zero =>
    intro w hn hw0 hlow
    exfalso
    omega
  | succ n ih =>
    intro w hn hw0 hlow
    refine zwalk zmk_129 [(2, [true, true, false, false]), (31, [true, true, true, true])] 3 ?_
    show (((σ 9 (22 : Int)) ≤ w → (σ = σ ∧ zfil σ (σ 9 25) (σ 53) (-1000000 : Int))) ∧ (w < (σ 9 (22 : Int)) → ((0 ≤ w ∧ w < (30 : Int)) ∧ ((¬ (σ 51 w) = (σ 9 (25 : Int)) → zRuns 129 zX0 (fun (v : Int) (u : zS) => σ = u ∧ zfil σ (σ 9 25) (σ 53) v) 31 [some (.inr (.inr (9, 0))), some (.inl w), some (.inl (0 : Int)), some (.inl (0 : Int))] [] σ) ∧ ((σ 51 w) = (σ 9 (25 : Int)) → zRuns 129 zX0 (fun (v : Int) (u : zS) => σ = u ∧ zfil σ (σ 9 25) (σ 53) v) 31 [some (.inr (.inr (9, 0))), some (.inl w), some (.inl (1 : Int)), some (.inl (0 : Int))] [] σ)))))
    refine ⟨?_, ?_⟩
    · intro h1
      exact ⟨rfl, Or.inr ⟨rfl, fun j a b => hlow j a (by omega)⟩⟩
    · intro h2
      refine ⟨by (first | exact ⟨by omega, by omega⟩ | (exfalso; omega)), ?_⟩
      refine ⟨?_, ?_⟩
      · intro h3
        refine lp_inl hm hl22 (by omega) hlow (fun q => ih _ (by omega) (by omega) (fun j a b => ?_)) 14 _ _ (by omega) (by omega) (Or.inr ⟨rfl, fun q => by have q2 := q.1; contradiction⟩)
        by_cases e : j = w
        · rw [e]; exact q
        · exact hlow j a (by omega)
      · intro h4
        refine lp_inl hm hl22 (by omega) hlow (fun q => ih _ (by omega) (by omega) (fun j a b => ?_)) 14 _ _ (by omega) (by omega) (Or.inl ⟨rfl, by assumption, fun j a b => by omega⟩)
        by_cases e : j = w
        · rw [e]; exact q
        · exact hlow j a (by omega)
set_option maxRecDepth 100000 in
set_option maxHeartbeats 4000000 in
theorem am_X9_inList {σ : zS} (hm : 0 ≤ σ 9 25 ∧ σ 9 25 ≤ 12) (hl22 : 0 ≤ σ 9 22 ∧ σ 9 22 ≤ 30) : zAM 129 [.inr (.inr (9, 0))] σ (fun (v : Int) (u : zS) => σ = u ∧ zfil σ (σ 9 25) (σ 53) v) := by
  refine zam (by decide) (Nat.le_of_ble_eq_true rfl) ?_
  refine zwalk zmk_129 [(2, [true, true, false, false]), (31, [true, true, true, true])] 2 ?_
  show zRuns 129 zX0 (fun (v : Int) (u : zS) => σ = u ∧ zfil σ (σ 9 25) (σ 53) v) 2 [some (.inr (.inr (9, 0))), some (.inl (0 : Int)), none, none] [] σ
  exact lp_inL hm hl22 32 0 (by omega) (by omega) (fun j a b => by omega)
set_option maxRecDepth 100000 in
set_option maxHeartbeats 4000000 in
theorem lp_mlist {w : Int} {σ : zS} (hm : 0 ≤ σ 9 25 ∧ σ 9 25 ≤ 12) (hl22 : 0 ≤ σ 9 22 ∧ σ 9 22 ≤ 30) (hw1 : zfil σ (σ 9 25) (σ 53) w) (hw2 : w = -1000000) (h30 : ¬ σ 9 22 = 30) (h0 : ¬ σ 9 25 = 0) : ∀ (n : Nat) (k : Int) (ρ : zS), σ 9 25 - k < (n : Int) → (0 ≤ k ∧ k ≤ σ 9 25) → (ρ = zcp (zup σ 51 (σ 9 22) (σ 9 25)) 53 0 52 (12 * σ 9 22) k) → zRuns 130 zX0 (fun (v : Int) (u : zS) => ((σ 9 25 = 0) ∧ σ = u ∧ -1000002 = v) ∨ (¬ σ 9 25 = 0 ∧ ∃ w : Int, zfil σ (σ 9 25) (σ 53) w ∧ ((¬ w = -1000000 ∧ σ = u ∧ -1000002 = v) ∨ (w = -1000000 ∧ σ 9 22 = 30 ∧ σ = u ∧ -1000003 = v) ∨ (w = -1000000 ∧ ¬ σ 9 22 = 30 ∧ zup (zup (zcp (zup σ 51 (σ 9 22) (σ 9 25)) 53 0 52 (12 * σ 9 22) (σ 9 25)) 9 22 (σ 9 22 + 1)) 9 25 0 = u ∧ σ 9 22 = v)))) 46 [some (.inr (.inr (9, 0))), some (.inl k)] [] ρ := by
  intro n
  induction n with
  | zero =>
    intro k ρ hn q0 qs
    exfalso
    omega
  | succ n ih =>
    intro k ρ hn q0 qs
    refine zwalk zmk_130 [(46, [true, true])] 3 ?_
    show (((ρ 9 (25 : Int)) ≤ k → (zI ((ρ 9 (22 : Int)) + (1 : Int)) ∧ (zI (((ρ 9 (22 : Int)) + (1 : Int)) - (1 : Int)) ∧ (((σ 9 25 = 0) ∧ σ = (zup (zup ρ 9 (22 : Int) ((ρ 9 (22 : Int)) + (1 : Int))) 9 (25 : Int) (0 : Int)) ∧ -1000002 = (((ρ 9 (22 : Int)) + (1 : Int)) - (1 : Int))) ∨ (¬ σ 9 25 = 0 ∧ ∃ w : Int, zfil σ (σ 9 25) (σ 53) w ∧ ((¬ w = -1000000 ∧ σ = (zup (zup ρ 9 (22 : Int) ((ρ 9 (22 : Int)) + (1 : Int))) 9 (25 : Int) (0 : Int)) ∧ -1000002 = (((ρ 9 (22 : Int)) + (1 : Int)) - (1 : Int))) ∨ (w = -1000000 ∧ σ 9 22 = 30 ∧ σ = (zup (zup ρ 9 (22 : Int) ((ρ 9 (22 : Int)) + (1 : Int))) 9 (25 : Int) (0 : Int)) ∧ -1000003 = (((ρ 9 (22 : Int)) + (1 : Int)) - (1 : Int))) ∨ (w = -1000000 ∧ ¬ σ 9 22 = 30 ∧ zup (zup (zcp (zup σ 51 (σ 9 22) (σ 9 25)) 53 0 52 (12 * σ 9 22) (σ 9 25)) 9 22 (σ 9 22 + 1)) 9 25 0 = (zup (zup ρ 9 (22 : Int) ((ρ 9 (22 : Int)) + (1 : Int))) 9 (25 : Int) (0 : Int)) ∧ σ 9 22 = (((ρ 9 (22 : Int)) + (1 : Int)) - (1 : Int))))))))) ∧ (k < (ρ 9 (25 : Int)) → (zI ((12 : Int) * (ρ 9 (22 : Int))) ∧ (zI (((12 : Int) * (ρ 9 (22 : Int))) + k) ∧ ((0 ≤ k ∧ k < (12 : Int)) ∧ ((0 ≤ (((12 : Int) * (ρ 9 (22 : Int))) + k) ∧ (((12 : Int) * (ρ 9 (22 : Int))) + k) < (360 : Int)) ∧ (zI (k + (1 : Int)) ∧ zRuns 130 zX0 (fun (v : Int) (u : zS) => ((σ 9 25 = 0) ∧ σ = u ∧ -1000002 = v) ∨ (¬ σ 9 25 = 0 ∧ ∃ w : Int, zfil σ (σ 9 25) (σ 53) w ∧ ((¬ w = -1000000 ∧ σ = u ∧ -1000002 = v) ∨ (w = -1000000 ∧ σ 9 22 = 30 ∧ σ = u ∧ -1000003 = v) ∨ (w = -1000000 ∧ ¬ σ 9 22 = 30 ∧ zup (zup (zcp (zup σ 51 (σ 9 22) (σ 9 25)) 53 0 52 (12 * σ 9 22) (σ 9 25)) 9 22 (σ 9 22 + 1)) 9 25 0 = u ∧ σ 9 22 = v)))) 46 [some (.inr (.inr (9, 0))), some (.inl (k + (1 : Int)))] [] (zup ρ 52 (((12 : Int) * (ρ 9 (22 : Int))) + k) (ρ 53 k)))))))))
    have q9 : ρ 9 = σ 9 := by rw [qs]; exact zcp_o (by decide)
    have q53 : ρ 53 = σ 53 := by rw [qs]; exact zcp_o (by decide)
    have e25 : ρ 9 25 = σ 9 25 := congrFun q9 25
    have e22 : ρ 9 22 = σ 9 22 := congrFun q9 22
    refine ⟨?_, ?_⟩
    · intro h1
      refine ⟨by (first | exact ⟨by omega, by omega⟩ | (exfalso; omega)), ?_⟩
      refine ⟨by (first | exact ⟨by omega, by omega⟩ | (exfalso; omega)), ?_⟩
      rw [show k = σ 9 25 by omega] at qs
      refine Or.inr ⟨by omega, w, hw1, Or.inr (Or.inr ⟨by omega, by omega, ?_, ?_⟩)⟩
      · rw [e22, qs]
      · show σ 9 22 = ρ 9 22 + 1 - 1
        omega
    · intro h2
      refine ⟨by (first | exact ⟨by omega, by omega⟩ | (exfalso; omega)), ?_⟩
      refine ⟨by (first | exact ⟨by omega, by omega⟩ | (exfalso; omega)), ?_⟩
      refine ⟨by (first | exact ⟨by omega, by omega⟩ | (exfalso; omega)), ?_⟩
      refine ⟨by (first | exact ⟨by omega, by omega⟩ | (exfalso; omega)), ?_⟩
      refine ⟨by (first | exact ⟨by omega, by omega⟩ | (exfalso; omega)), ?_⟩
      refine ih _ _ (by omega) (by omega) ?_
      rw [e22, q53, qs]
      exact zcp_s q0.1 (by show _ = σ 53 (0 + k); rw [Int.zero_add])
set_option maxRecDepth 100000 in
set_option maxHeartbeats 4000000 in
theorem am_X9_list {σ : zS} (hm : 0 ≤ σ 9 25 ∧ σ 9 25 ≤ 12) (hl22 : 0 ≤ σ 9 22 ∧ σ 9 22 ≤ 30) : zAM 130 [.inr (.inr (9, 0))] σ (fun (v : Int) (u : zS) => ((σ 9 25 = 0) ∧ σ = u ∧ -1000002 = v) ∨ (¬ σ 9 25 = 0 ∧ ∃ w : Int, zfil σ (σ 9 25) (σ 53) w ∧ ((¬ w = -1000000 ∧ σ = u ∧ -1000002 = v) ∨ (w = -1000000 ∧ σ 9 22 = 30 ∧ σ = u ∧ -1000003 = v) ∨ (w = -1000000 ∧ ¬ σ 9 22 = 30 ∧ zup (zup (zcp (zup σ 51 (σ 9 22) (σ 9 25)) 53 0 52 (12 * σ 9 22) (σ 9 25)) 9 22 (σ 9 22 + 1)) 9 25 0 = u ∧ σ 9 22 = v)))) := by
  refine zam (by decide) (Nat.le_of_ble_eq_true rfl) ?_
  refine zwalk zmk_130 [(46, [true, true])] 4 ?_
  show (((σ 9 (25 : Int)) = 0 → (((σ 9 25 = 0) ∧ σ = σ ∧ -1000002 = (-1000002 : Int)) ∨ (¬ σ 9 25 = 0 ∧ ∃ w : Int, zfil σ (σ 9 25) (σ 53) w ∧ ((¬ w = -1000000 ∧ σ = σ ∧ -1000002 = (-1000002 : Int)) ∨ (w = -1000000 ∧ σ 9 22 = 30 ∧ σ = σ ∧ -1000003 = (-1000002 : Int)) ∨ (w = -1000000 ∧ ¬ σ 9 22 = 30 ∧ zup (zup (zcp (zup σ 51 (σ 9 22) (σ 9 25)) 53 0 52 (12 * σ 9 22) (σ 9 25)) 9 22 (σ 9 22 + 1)) 9 25 0 = σ ∧ σ 9 22 = (-1000002 : Int)))))) ∧ (¬ (σ 9 (25 : Int)) = 0 → (∃ Rc : Int → zS → Prop, zAM 129 [.inr (.inr (9, 0))] σ Rc ∧ ∀ (v1 : Int) (u1 : zS), zI v1 → Rc v1 u1 → ((v1 = (-1000000 : Int) → ((¬ (u1 9 (22 : Int)) = (30 : Int) → ((0 ≤ (u1 9 (22 : Int)) ∧ (u1 9 (22 : Int)) < (30 : Int)) ∧ zRuns 130 zX0 (fun (v : Int) (u : zS) => ((σ 9 25 = 0) ∧ σ = u ∧ -1000002 = v) ∨ (¬ σ 9 25 = 0 ∧ ∃ w : Int, zfil σ (σ 9 25) (σ 53) w ∧ ((¬ w = -1000000 ∧ σ = u ∧ -1000002 = v) ∨ (w = -1000000 ∧ σ 9 22 = 30 ∧ σ = u ∧ -1000003 = v) ∨ (w = -1000000 ∧ ¬ σ 9 22 = 30 ∧ zup (zup (zcp (zup σ 51 (σ 9 22) (σ 9 25)) 53 0 52 (12 * σ 9 22) (σ 9 25)) 9 22 (σ 9 22 + 1)) 9 25 0 = u ∧ σ 9 22 = v)))) 46 [some (.inr (.inr (9, 0))), some (.inl (0 : Int))] [] (zup u1 51 (u1 9 (22 : Int)) (u1 9 (25 : Int))))) ∧ ((u1 9 (22 : Int)) = (30 : Int) → (((σ 9 25 = 0) ∧ σ = u1 ∧ -1000002 = (-1000003 : Int)) ∨ (¬ σ 9 25 = 0 ∧ ∃ w : Int, zfil σ (σ 9 25) (σ 53) w ∧ ((¬ w = -1000000 ∧ σ = u1 ∧ -1000002 = (-1000003 : Int)) ∨ (w = -1000000 ∧ σ 9 22 = 30 ∧ σ = u1 ∧ -1000003 = (-1000003 : Int)) ∨ (w = -1000000 ∧ ¬ σ 9 22 = 30 ∧ zup (zup (zcp (zup σ 51 (σ 9 22) (σ 9 25)) 53 0 52 (12 * σ 9 22) (σ 9 25)) 9 22 (σ 9 22 + 1)) 9 25 0 = u1 ∧ σ 9 22 = (-1000003 : Int)))))))) ∧ (¬ v1 = (-1000000 : Int) → (((σ 9 25 = 0) ∧ σ = u1 ∧ -1000002 = (-1000002 : Int)) ∨ (¬ σ 9 25 = 0 ∧ ∃ w : Int, zfil σ (σ 9 25) (σ 53) w ∧ ((¬ w = -1000000 ∧ σ = u1 ∧ -1000002 = (-1000002 : Int)) ∨ (w = -1000000 ∧ σ 9 22 = 30 ∧ σ = u1 ∧ -1000003 = (-1000002 : Int)) ∨ (w = -1000000 ∧ ¬ σ 9 22 = 30 ∧ zup (zup (zcp (zup σ 51 (σ 9 22) (σ 9 25)) 53 0 52 (12 * σ 9 22) (σ 9 25)) 9 22 (σ 9 22 + 1)) 9 25 0 = u1 ∧ σ 9 22 = (-1000002 : Int))))))))))
  refine ⟨?_, ?_⟩
  · intro h1
    first | exact Or.inl ⟨by omega, rfl, rfl⟩ | exact Or.inr ⟨by omega, _, by assumption, Or.inl ⟨by omega, rfl, rfl⟩⟩ | exact Or.inr ⟨by omega, _, by assumption, Or.inr (Or.inl ⟨by omega, by omega, rfl, rfl⟩)⟩
  · intro h2
    refine ⟨_, am_X9_inList (hm) (hl22), ?_⟩
    intro v1 u1 hv1
    rintro ⟨rfl, ev1⟩
    obtain ⟨hv1a, hv1b⟩ := hv1
    refine ⟨?_, ?_⟩
    · intro h3
      refine ⟨?_, ?_⟩
      · intro h4
        refine ⟨by (first | exact ⟨by omega, by omega⟩ | (exfalso; omega)), ?_⟩
        exact lp_mlist hm hl22 (by assumption) (by omega) (by omega) (by omega) 13 0 _ (by omega) (by omega) zcp_0.symm
      · intro h5
        first | exact Or.inl ⟨by omega, rfl, rfl⟩ | exact Or.inr ⟨by omega, _, by assumption, Or.inl ⟨by omega, rfl, rfl⟩⟩ | exact Or.inr ⟨by omega, _, by assumption, Or.inr (Or.inl ⟨by omega, by omega, rfl, rfl⟩)⟩
    · intro h6
      first | exact Or.inl ⟨by omega, rfl, rfl⟩ | exact Or.inr ⟨by omega, _, by assumption, Or.inl ⟨by omega, rfl, rfl⟩⟩ | exact Or.inr ⟨by omega, _, by assumption, Or.inr (Or.inl ⟨by omega, by omega, rfl, rfl⟩)⟩
set_option maxRecDepth 100000 in
set_option maxHeartbeats 4000000 in
theorem am_X9_form {σ : zS} {l : Int} {m : Int} {a : Int} {b : Int} {c : Int} {o : Int} (hc : ∀ j : Int, 0 ≤ j → j < 49660 → 0 ≤ σ 47 j ∧ σ 47 j ≤ 999) (hu : 0 ≤ σ 9 17 ∧ σ 9 17 < 12000) : zAM 125 [.inr (.inr (9, 0)), .inl l, .inl m, .inl a, .inl b, .inl c, .inl o] σ (fun (v : Int) (u : zS) => ((¬ ((0 ≤ l ∧ l < 26) ∧ 1 ≤ m ∧ m ≤ 3 ∧ 0 ≤ a ∧ a < 12 ∧ (m < 2 ∨ 0 ≤ b ∧ b < 12) ∧ (m < 3 ∨ 0 ≤ c ∧ c < 12)) ∨ ¬ (1 ≤ o ∧ o ≤ 99)) ∧ σ = u ∧ -1000001 = v) ∨ ((((0 ≤ l ∧ l < 26) ∧ 1 ≤ m ∧ m ≤ 3 ∧ 0 ≤ a ∧ a < 12 ∧ (m < 2 ∨ 0 ≤ b ∧ b < 12) ∧ (m < 3 ∨ 0 ≤ c ∧ c < 12)) ∧ 1 ≤ o ∧ o ≤ 99) ∧ zup (if 0 < σ 9 20 then zup (zup (zup (zfill σ 55 0 40 0) 48 (σ 9 17) (1884 * l + zsh m a b c)) 49 (σ 9 17) (σ 47 (1884 * l + zsh m a b c))) 9 17 (σ 9 17 + 1) else zfill σ 55 0 40 0) 47 (1884 * l + zsh m a b c) (min 999 (σ 47 (1884 * l + zsh m a b c) + o)) = u ∧ min 999 (σ 47 (1884 * l + zsh m a b c) + o) = v)) := by
  refine zam (by decide) (Nat.le_of_ble_eq_true rfl) ?_
  refine zwalk zmk_125 [] 3 ?_
  show (∃ Rc : Int → zS → Prop, zAM 123 [.inl l, .inl m, .inl a, .inl b, .inl c] σ Rc ∧ ∀ (v1 : Int) (u1 : zS), zI v1 → Rc v1 u1 → ((v1 = 0 → (((¬ ((0 ≤ l ∧ l < 26) ∧ 1 ≤ m ∧ m ≤ 3 ∧ 0 ≤ a ∧ a < 12 ∧ (m < 2 ∨ 0 ≤ b ∧ b < 12) ∧ (m < 3 ∨ 0 ≤ c ∧ c < 12)) ∨ ¬ (1 ≤ o ∧ o ≤ 99)) ∧ σ = u1 ∧ -1000001 = (-1000001 : Int)) ∨ ((((0 ≤ l ∧ l < 26) ∧ 1 ≤ m ∧ m ≤ 3 ∧ 0 ≤ a ∧ a < 12 ∧ (m < 2 ∨ 0 ≤ b ∧ b < 12) ∧ (m < 3 ∨ 0 ≤ c ∧ c < 12)) ∧ 1 ≤ o ∧ o ≤ 99) ∧ zup (if 0 < σ 9 20 then zup (zup (zup (zfill σ 55 0 40 0) 48 (σ 9 17) (1884 * l + zsh m a b c)) 49 (σ 9 17) (σ 47 (1884 * l + zsh m a b c))) 9 17 (σ 9 17 + 1) else zfill σ 55 0 40 0) 47 (1884 * l + zsh m a b c) (min 999 (σ 47 (1884 * l + zsh m a b c) + o)) = u1 ∧ min 999 (σ 47 (1884 * l + zsh m a b c) + o) = (-1000001 : Int)))) ∧ (¬ v1 = 0 → (∃ Rc : Int → zS → Prop, zAM 103 [.inr (.inl o), .inr (.inl (1 : Int)), .inr (.inl (99 : Int))] u1 Rc ∧ ∀ (v2 : Int) (u2 : zS), zI v2 → Rc v2 u2 → ((¬ v2 = 0 → (∃ Rc : Int → zS → Prop, zAM 111 [.inr (.inr (9, 0))] u2 Rc ∧ ∀ (u3 : zS), Rc 0 u3 → (zI ((1884 : Int) * l) ∧ (∃ Rc : Int → zS → Prop, zAM 122 [.inl m, .inl a, .inl b, .inl c] u3 Rc ∧ ∀ (v4 : Int) (u4 : zS), zI v4 → Rc v4 u4 → (zI (((1884 : Int) * l) + v4) ∧ (∃ Rc : Int → zS → Prop, zAM 124 [.inr (.inr (9, 0)), .inl (((1884 : Int) * l) + v4), .inl o] u4 Rc ∧ ∀ (v5 : Int) (u5 : zS), zI v5 → Rc v5 u5 → (((¬ ((0 ≤ l ∧ l < 26) ∧ 1 ≤ m ∧ m ≤ 3 ∧ 0 ≤ a ∧ a < 12 ∧ (m < 2 ∨ 0 ≤ b ∧ b < 12) ∧ (m < 3 ∨ 0 ≤ c ∧ c < 12)) ∨ ¬ (1 ≤ o ∧ o ≤ 99)) ∧ σ = u5 ∧ -1000001 = v5) ∨ ((((0 ≤ l ∧ l < 26) ∧ 1 ≤ m ∧ m ≤ 3 ∧ 0 ≤ a ∧ a < 12 ∧ (m < 2 ∨ 0 ≤ b ∧ b < 12) ∧ (m < 3 ∨ 0 ≤ c ∧ c < 12)) ∧ 1 ≤ o ∧ o ≤ 99) ∧ zup (if 0 < σ 9 20 then zup (zup (zup (zfill σ 55 0 40 0) 48 (σ 9 17) (1884 * l + zsh m a b c)) 49 (σ 9 17) (σ 47 (1884 * l + zsh m a b c))) 9 17 (σ 9 17 + 1) else zfill σ 55 0 40 0) 47 (1884 * l + zsh m a b c) (min 999 (σ 47 (1884 * l + zsh m a b c) + o)) = u5 ∧ min 999 (σ 47 (1884 * l + zsh m a b c) + o) = v5)))))))) ∧ (v2 = 0 → (((¬ ((0 ≤ l ∧ l < 26) ∧ 1 ≤ m ∧ m ≤ 3 ∧ 0 ≤ a ∧ a < 12 ∧ (m < 2 ∨ 0 ≤ b ∧ b < 12) ∧ (m < 3 ∨ 0 ≤ c ∧ c < 12)) ∨ ¬ (1 ≤ o ∧ o ≤ 99)) ∧ σ = u2 ∧ -1000001 = (-1000001 : Int)) ∨ ((((0 ≤ l ∧ l < 26) ∧ 1 ≤ m ∧ m ≤ 3 ∧ 0 ≤ a ∧ a < 12 ∧ (m < 2 ∨ 0 ≤ b ∧ b < 12) ∧ (m < 3 ∨ 0 ≤ c ∧ c < 12)) ∧ 1 ≤ o ∧ o ≤ 99) ∧ zup (if 0 < σ 9 20 then zup (zup (zup (zfill σ 55 0 40 0) 48 (σ 9 17) (1884 * l + zsh m a b c)) 49 (σ 9 17) (σ 47 (1884 * l + zsh m a b c))) 9 17 (σ 9 17 + 1) else zfill σ 55 0 40 0) 47 (1884 * l + zsh m a b c) (min 999 (σ 47 (1884 * l + zsh m a b c) + o)) = u2 ∧ min 999 (σ 47 (1884 * l + zsh m a b c) + o) = (-1000001 : Int)))))))))
  have hz : (1 ≤ m ∧ m ≤ 3 ∧ 0 ≤ a ∧ a < 12 ∧ (m < 2 ∨ 0 ≤ b ∧ b < 12) ∧ (m < 3 ∨ 0 ≤ c ∧ c < 12)) → 0 ≤ zsh m a b c ∧ zsh m a b c < 1884 := zsh_r
  refine ⟨_, am_X9_isForm, ?_⟩
  intro v1 u1 hv1
  rintro ⟨rfl, (⟨rfl, cv1⟩ | ⟨rfl, cv1⟩)⟩
  · refine ⟨?_, ?_⟩
    · exact fun h => absurd h (by decide)
    · intro _
      refine ⟨_, am_X9_in, ?_⟩
      intro v2 u2 hv2
      rintro ⟨rfl, (⟨rfl, cv2⟩ | ⟨rfl, cv2⟩)⟩
      · refine ⟨?_, ?_⟩
        · intro _
          refine ⟨_, am_X9_forget, ?_⟩
          intro u3
          rintro rfl
          refine ⟨by (first | exact ⟨by omega, by omega⟩ | (exfalso; omega)), ?_⟩
          refine ⟨_, am_X9_shapes (by omega), ?_⟩
          intro v4 u4 hv4
          rintro ⟨rfl, rfl⟩
          obtain ⟨hv4a, hv4b⟩ := hv4
          refine ⟨by (first | exact ⟨by omega, by omega⟩ | (exfalso; omega)), ?_⟩
          refine ⟨_, am_X9_raise (by omega) (by omega) (show 0 ≤ σ 47 (1884 * l + zsh m a b c) ∧ σ 47 (1884 * l + zsh m a b c) ≤ 999 from hc _ (by omega) (by omega)) (show 0 ≤ σ 9 17 ∧ σ 9 17 < 12000 from hu), ?_⟩
          intro v5 u5 hv5
          rintro ⟨rfl, rfl⟩
          obtain ⟨hv5a, hv5b⟩ := hv5
          first | exact (Or.inl ⟨by omega, rfl, rfl⟩) | exact (Or.inr ⟨by omega, rfl, rfl⟩)
        · exact fun h => absurd h (by decide)
      · refine ⟨?_, ?_⟩
        · exact fun h => absurd h (by decide)
        · intro _
          first | exact (Or.inl ⟨by omega, rfl, rfl⟩) | exact (Or.inr ⟨by omega, rfl, rfl⟩)
  · refine ⟨?_, ?_⟩
    · intro _
      first | exact (Or.inl ⟨by omega, rfl, rfl⟩) | exact (Or.inr ⟨by omega, rfl, rfl⟩)
    · exact fun h => absurd h (by decide)
set_option maxRecDepth 100000 in
set_option maxHeartbeats 4000000 in
theorem am_X9_seen {σ : zS} {l : Int} {m : Int} {a : Int} {b : Int} {c : Int} : zAM 126 [.inr (.inr (9, 0)), .inl l, .inl m, .inl a, .inl b, .inl c] σ (fun (v : Int) (u : zS) => ((¬ ((0 ≤ l ∧ l < 26) ∧ 1 ≤ m ∧ m ≤ 3 ∧ 0 ≤ a ∧ a < 12 ∧ (m < 2 ∨ 0 ≤ b ∧ b < 12) ∧ (m < 3 ∨ 0 ≤ c ∧ c < 12))) ∧ σ = u ∧ -1000001 = v) ∨ ((((0 ≤ l ∧ l < 26) ∧ 1 ≤ m ∧ m ≤ 3 ∧ 0 ≤ a ∧ a < 12 ∧ (m < 2 ∨ 0 ≤ b ∧ b < 12) ∧ (m < 3 ∨ 0 ≤ c ∧ c < 12))) ∧ σ = u ∧ σ 47 (1884 * l + zsh m a b c) = v)) := by
  refine zam (by decide) (Nat.le_of_ble_eq_true rfl) ?_
  refine zwalk zmk_126 [] 3 ?_
  show (∃ Rc : Int → zS → Prop, zAM 123 [.inl l, .inl m, .inl a, .inl b, .inl c] σ Rc ∧ ∀ (v1 : Int) (u1 : zS), zI v1 → Rc v1 u1 → ((v1 = 0 → (((¬ ((0 ≤ l ∧ l < 26) ∧ 1 ≤ m ∧ m ≤ 3 ∧ 0 ≤ a ∧ a < 12 ∧ (m < 2 ∨ 0 ≤ b ∧ b < 12) ∧ (m < 3 ∨ 0 ≤ c ∧ c < 12))) ∧ σ = u1 ∧ -1000001 = (-1000001 : Int)) ∨ ((((0 ≤ l ∧ l < 26) ∧ 1 ≤ m ∧ m ≤ 3 ∧ 0 ≤ a ∧ a < 12 ∧ (m < 2 ∨ 0 ≤ b ∧ b < 12) ∧ (m < 3 ∨ 0 ≤ c ∧ c < 12))) ∧ σ = u1 ∧ σ 47 (1884 * l + zsh m a b c) = (-1000001 : Int)))) ∧ (¬ v1 = 0 → (zI ((1884 : Int) * l) ∧ (∃ Rc : Int → zS → Prop, zAM 122 [.inl m, .inl a, .inl b, .inl c] u1 Rc ∧ ∀ (v2 : Int) (u2 : zS), zI v2 → Rc v2 u2 → (zI (((1884 : Int) * l) + v2) ∧ ((0 ≤ (((1884 : Int) * l) + v2) ∧ (((1884 : Int) * l) + v2) < (49660 : Int)) ∧ (((¬ ((0 ≤ l ∧ l < 26) ∧ 1 ≤ m ∧ m ≤ 3 ∧ 0 ≤ a ∧ a < 12 ∧ (m < 2 ∨ 0 ≤ b ∧ b < 12) ∧ (m < 3 ∨ 0 ≤ c ∧ c < 12))) ∧ σ = u2 ∧ -1000001 = (u2 47 (((1884 : Int) * l) + v2))) ∨ ((((0 ≤ l ∧ l < 26) ∧ 1 ≤ m ∧ m ≤ 3 ∧ 0 ≤ a ∧ a < 12 ∧ (m < 2 ∨ 0 ≤ b ∧ b < 12) ∧ (m < 3 ∨ 0 ≤ c ∧ c < 12))) ∧ σ = u2 ∧ σ 47 (1884 * l + zsh m a b c) = (u2 47 (((1884 : Int) * l) + v2)))))))))))
  have hz : (1 ≤ m ∧ m ≤ 3 ∧ 0 ≤ a ∧ a < 12 ∧ (m < 2 ∨ 0 ≤ b ∧ b < 12) ∧ (m < 3 ∨ 0 ≤ c ∧ c < 12)) → 0 ≤ zsh m a b c ∧ zsh m a b c < 1884 := zsh_r
  refine ⟨_, am_X9_isForm, ?_⟩
  intro v1 u1 hv1
  rintro ⟨rfl, (⟨rfl, cv1⟩ | ⟨rfl, cv1⟩)⟩
  · refine ⟨?_, ?_⟩
    · exact fun h => absurd h (by decide)
    · intro _
      refine ⟨by (first | exact ⟨by omega, by omega⟩ | (exfalso; omega)), ?_⟩
      refine ⟨_, am_X9_shapes (by omega), ?_⟩
      intro v2 u2 hv2
      rintro ⟨rfl, rfl⟩
      obtain ⟨hv2a, hv2b⟩ := hv2
      refine ⟨by (first | exact ⟨by omega, by omega⟩ | (exfalso; omega)), ?_⟩
      refine ⟨by (first | exact ⟨by omega, by omega⟩ | (exfalso; omega)), ?_⟩
      first | exact (Or.inl ⟨by omega, rfl, rfl⟩) | exact (Or.inr ⟨by omega, rfl, rfl⟩)
  · refine ⟨?_, ?_⟩
    · intro _
      first | exact (Or.inl ⟨by omega, rfl, rfl⟩) | exact (Or.inr ⟨by omega, rfl, rfl⟩)
    · exact fun h => absurd h (by decide)
set_option maxRecDepth 100000 in
set_option maxHeartbeats 4000000 in
theorem am_X9_pair {σ : zS} {a : Int} {b : Int} {o : Int} (hc : ∀ j : Int, 0 ≤ j → j < 49660 → 0 ≤ σ 47 j ∧ σ 47 j ≤ 999) (hu : 0 ≤ σ 9 17 ∧ σ 9 17 < 12000) : zAM 127 [.inr (.inr (9, 0)), .inl a, .inl b, .inl o] σ (fun (v : Int) (u : zS) => ((¬ (0 ≤ a ∧ a < 26) ∨ ¬ (0 ≤ b ∧ b < 26) ∨ ¬ (1 ≤ o ∧ o ≤ 99)) ∧ σ = u ∧ -1000001 = v) ∨ (((0 ≤ a ∧ a < 26) ∧ (0 ≤ b ∧ b < 26) ∧ 1 ≤ o ∧ o ≤ 99) ∧ zup (if 0 < σ 9 20 then zup (zup (zup (zfill σ 55 0 40 0) 48 (σ 9 17) (48984 + 26 * a + b)) 49 (σ 9 17) (σ 47 (48984 + 26 * a + b))) 9 17 (σ 9 17 + 1) else zfill σ 55 0 40 0) 47 (48984 + 26 * a + b) (min 999 (σ 47 (48984 + 26 * a + b) + o)) = u ∧ min 999 (σ 47 (48984 + 26 * a + b) + o) = v)) := by
  refine zam (by decide) (Nat.le_of_ble_eq_true rfl) ?_
  refine zwalk zmk_127 [] 3 ?_
  show (∃ Rc : Int → zS → Prop, zAM 121 [.inl a] σ Rc ∧ ∀ (v1 : Int) (u1 : zS), zI v1 → Rc v1 u1 → ((v1 = 0 → (((¬ (0 ≤ a ∧ a < 26) ∨ ¬ (0 ≤ b ∧ b < 26) ∨ ¬ (1 ≤ o ∧ o ≤ 99)) ∧ σ = u1 ∧ -1000001 = (-1000001 : Int)) ∨ (((0 ≤ a ∧ a < 26) ∧ (0 ≤ b ∧ b < 26) ∧ 1 ≤ o ∧ o ≤ 99) ∧ zup (if 0 < σ 9 20 then zup (zup (zup (zfill σ 55 0 40 0) 48 (σ 9 17) (48984 + 26 * a + b)) 49 (σ 9 17) (σ 47 (48984 + 26 * a + b))) 9 17 (σ 9 17 + 1) else zfill σ 55 0 40 0) 47 (48984 + 26 * a + b) (min 999 (σ 47 (48984 + 26 * a + b) + o)) = u1 ∧ min 999 (σ 47 (48984 + 26 * a + b) + o) = (-1000001 : Int)))) ∧ (¬ v1 = 0 → (∃ Rc : Int → zS → Prop, zAM 121 [.inl b] u1 Rc ∧ ∀ (v2 : Int) (u2 : zS), zI v2 → Rc v2 u2 → ((v2 = 0 → (((¬ (0 ≤ a ∧ a < 26) ∨ ¬ (0 ≤ b ∧ b < 26) ∨ ¬ (1 ≤ o ∧ o ≤ 99)) ∧ σ = u2 ∧ -1000001 = (-1000001 : Int)) ∨ (((0 ≤ a ∧ a < 26) ∧ (0 ≤ b ∧ b < 26) ∧ 1 ≤ o ∧ o ≤ 99) ∧ zup (if 0 < σ 9 20 then zup (zup (zup (zfill σ 55 0 40 0) 48 (σ 9 17) (48984 + 26 * a + b)) 49 (σ 9 17) (σ 47 (48984 + 26 * a + b))) 9 17 (σ 9 17 + 1) else zfill σ 55 0 40 0) 47 (48984 + 26 * a + b) (min 999 (σ 47 (48984 + 26 * a + b) + o)) = u2 ∧ min 999 (σ 47 (48984 + 26 * a + b) + o) = (-1000001 : Int)))) ∧ (¬ v2 = 0 → (∃ Rc : Int → zS → Prop, zAM 103 [.inr (.inl o), .inr (.inl (1 : Int)), .inr (.inl (99 : Int))] u2 Rc ∧ ∀ (v3 : Int) (u3 : zS), zI v3 → Rc v3 u3 → ((¬ v3 = 0 → (∃ Rc : Int → zS → Prop, zAM 111 [.inr (.inr (9, 0))] u3 Rc ∧ ∀ (u4 : zS), Rc 0 u4 → (zI ((26 : Int) * a) ∧ (zI ((48984 : Int) + ((26 : Int) * a)) ∧ (zI (((48984 : Int) + ((26 : Int) * a)) + b) ∧ (∃ Rc : Int → zS → Prop, zAM 124 [.inr (.inr (9, 0)), .inl (((48984 : Int) + ((26 : Int) * a)) + b), .inl o] u4 Rc ∧ ∀ (v5 : Int) (u5 : zS), zI v5 → Rc v5 u5 → (((¬ (0 ≤ a ∧ a < 26) ∨ ¬ (0 ≤ b ∧ b < 26) ∨ ¬ (1 ≤ o ∧ o ≤ 99)) ∧ σ = u5 ∧ -1000001 = v5) ∨ (((0 ≤ a ∧ a < 26) ∧ (0 ≤ b ∧ b < 26) ∧ 1 ≤ o ∧ o ≤ 99) ∧ zup (if 0 < σ 9 20 then zup (zup (zup (zfill σ 55 0 40 0) 48 (σ 9 17) (48984 + 26 * a + b)) 49 (σ 9 17) (σ 47 (48984 + 26 * a + b))) 9 17 (σ 9 17 + 1) else zfill σ 55 0 40 0) 47 (48984 + 26 * a + b) (min 999 (σ 47 (48984 + 26 * a + b) + o)) = u5 ∧ min 999 (σ 47 (48984 + 26 * a + b) + o) = v5)))))))) ∧ (v3 = 0 → (((¬ (0 ≤ a ∧ a < 26) ∨ ¬ (0 ≤ b ∧ b < 26) ∨ ¬ (1 ≤ o ∧ o ≤ 99)) ∧ σ = u3 ∧ -1000001 = (-1000001 : Int)) ∨ (((0 ≤ a ∧ a < 26) ∧ (0 ≤ b ∧ b < 26) ∧ 1 ≤ o ∧ o ≤ 99) ∧ zup (if 0 < σ 9 20 then zup (zup (zup (zfill σ 55 0 40 0) 48 (σ 9 17) (48984 + 26 * a + b)) 49 (σ 9 17) (σ 47 (48984 + 26 * a + b))) 9 17 (σ 9 17 + 1) else zfill σ 55 0 40 0) 47 (48984 + 26 * a + b) (min 999 (σ 47 (48984 + 26 * a + b) + o)) = u3 ∧ min 999 (σ 47 (48984 + 26 * a + b) + o) = (-1000001 : Int))))))))))))
  refine ⟨_, am_X9_isLetter, ?_⟩
  intro v1 u1 hv1
  rintro ⟨rfl, (⟨rfl, cv1⟩ | ⟨rfl, cv1⟩)⟩
  · refine ⟨?_, ?_⟩
    · exact fun h => absurd h (by decide)
    · intro _
      refine ⟨_, am_X9_isLetter, ?_⟩
      intro v2 u2 hv2
      rintro ⟨rfl, (⟨rfl, cv2⟩ | ⟨rfl, cv2⟩)⟩
      · refine ⟨?_, ?_⟩
        · exact fun h => absurd h (by decide)
        · intro _
          refine ⟨_, am_X9_in, ?_⟩
          intro v3 u3 hv3
          rintro ⟨rfl, (⟨rfl, cv3⟩ | ⟨rfl, cv3⟩)⟩
          · refine ⟨?_, ?_⟩
            · intro _
              refine ⟨_, am_X9_forget, ?_⟩
              intro u4
              rintro rfl
              refine ⟨by (first | exact ⟨by omega, by omega⟩ | (exfalso; omega)), ?_⟩
              refine ⟨by (first | exact ⟨by omega, by omega⟩ | (exfalso; omega)), ?_⟩
              refine ⟨by (first | exact ⟨by omega, by omega⟩ | (exfalso; omega)), ?_⟩
              refine ⟨_, am_X9_raise (by omega) (by omega) (show 0 ≤ σ 47 (48984 + 26 * a + b) ∧ σ 47 (48984 + 26 * a + b) ≤ 999 from hc _ (by omega) (by omega)) (show 0 ≤ σ 9 17 ∧ σ 9 17 < 12000 from hu), ?_⟩
              intro v5 u5 hv5
              rintro ⟨rfl, rfl⟩
              obtain ⟨hv5a, hv5b⟩ := hv5
              first | exact (Or.inl ⟨by omega, rfl, rfl⟩) | exact (Or.inr ⟨by omega, rfl, rfl⟩)
            · exact fun h => absurd h (by decide)
          · refine ⟨?_, ?_⟩
            · exact fun h => absurd h (by decide)
            · intro _
              first | exact (Or.inl ⟨by omega, rfl, rfl⟩) | exact (Or.inr ⟨by omega, rfl, rfl⟩)
      · refine ⟨?_, ?_⟩
        · intro _
          first | exact (Or.inl ⟨by omega, rfl, rfl⟩) | exact (Or.inr ⟨by omega, rfl, rfl⟩)
        · exact fun h => absurd h (by decide)
  · refine ⟨?_, ?_⟩
    · intro _
      first | exact (Or.inl ⟨by omega, rfl, rfl⟩) | exact (Or.inr ⟨by omega, rfl, rfl⟩)
    · exact fun h => absurd h (by decide)
