/-! the model's calls on an ink -/
noncomputable def zmft (σ : zS) (i : Int) : Int → Int → Int → Int := fun a k l => if zmc σ l (σ 45 i + a) k = 1000000000 then -1 else zmc σ l (σ 45 i + a) k
def zPM (σ : zS) : Int → Int → Int := fun x y => 6 / (1 + σ 47 (48984 + 26 * x + y))
def zmq (σ : zS) (i : Int) : Int := if 14 < σ 45 (i + 1) - σ 45 i then 0 else σ 45 (i + 1) - σ 45 i
def zMO (σ : zS) : Prop := (0 ≤ σ 9 13 ∧ σ 9 13 ≤ 40) ∧ (0 ≤ σ 9 5 ∧ σ 9 5 ≤ 40) ∧ (∀ i : Int, 0 ≤ i → i < σ 9 13 → 0 ≤ σ 45 i ∧ σ 45 i ≤ σ 45 (i + 1) ∧ σ 45 (i + 1) ≤ σ 9 5) ∧ (∀ j : Int, 0 ≤ j → j < σ 9 5 → 0 ≤ σ 42 j ∧ σ 42 j < 12) ∧ ∀ j : Int, 0 ≤ j → j < 49660 → 0 ≤ σ 47 j ∧ σ 47 j ≤ 999
abbrev zMK : List Nat := [55, 56, 57, 58, 59, 61, 62, 63]
noncomputable def zMI (σ : zS) : Prop := ∀ i : Int, 0 ≤ i → i < σ 9 13 → σ 55 i = 0 ∨ (σ 55 i = 1 ∧ zKP σ i (zSD (zmft σ i) (zPM σ) (zmq σ i)))
noncomputable def zNW (σ u : zS) (i : Int) : Prop := zfr zMK σ u ∧ zMI u ∧ zKP u i (zSD (zmft σ i) (zPM σ) (zmq σ i)) ∧ ¬ u 55 i = 0 ∧ (¬ σ 55 i = 0 → σ = u)
theorem zmft_fr {σ t : zS} {i : Int} (e42 : t 42 = σ 42) (e43 : t 43 = σ 43) (e45 : t 45 = σ 45) (e47 : t 47 = σ 47) : zmft t i = zmft σ i ∧ zPM t = zPM σ ∧ zmq t i = zmq σ i := by
  refine ⟨?_, ?_, ?_⟩
  · funext a k l
    unfold zmft
    rw [e45, zmc_fr e42 e43 e47]
  · unfold zPM; rw [e47]
  · unfold zmq; rw [e45]
theorem zmc_c {σ : zS} {l a k : Int} (hc : ∀ j : Int, 0 ≤ j → j < 49660 → 0 ≤ σ 47 j ∧ σ 47 j ≤ 999) (hs : ∀ j : Int, a ≤ j → j < a + k → 0 ≤ σ 42 j ∧ σ 42 j < 12) (hk : 1 ≤ k ∧ k ≤ 3) (hl : 0 ≤ l ∧ l < 26) : zmc σ l a k = 1000000000 ∨ 0 ≤ zmc σ l a k ∧ zmc σ l a k ≤ 11 := by
  have s0 := hs a (by omega) (by omega)
  have s1 : 1 < k → 0 ≤ σ 42 (a + 1) ∧ σ 42 (a + 1) < 12 := fun q => hs _ (by omega) (by omega)
  have s2 : 2 < k → 0 ≤ σ 42 (a + 2) ∧ σ 42 (a + 2) < 12 := fun q => hs _ (by omega) (by omega)
  have hzr := zsh_r (m := k) (a := σ 42 a) (b := if 1 < k then σ 42 (a + 1) else 0) (c := if 2 < k then σ 42 (a + 2) else 0) ⟨by omega, by omega, by omega, by omega, by (split <;> omega), by (split <;> omega)⟩
  have hcv := hc (zsq σ l a k) (by unfold zsq; omega) (by unfold zsq; omega)
  unfold zmc
  by_cases h : σ 47 (zsq σ l a k) = 0
  · rw [if_pos h]; exact Or.inl rfl
  · rw [if_neg h]
    exact Or.inr (zct_r (by omega))
theorem zKP_fr {σ u : zS} {i : Int} {S : Int → Int → Prop} (h : zKP σ i S) (e56 : u 56 i = σ 56 i) (e : ∀ j : Int, 5 * i ≤ j → j < 5 * i + 5 → zk3 u σ j j) : zKP u i S := by
  obtain ⟨h1, h2⟩ := h
  have hn := h1.1
  unfold zKP
  rw [e56]
  refine ⟨h1.arr (fun j j0 j1 => ?_), fun j j0 j1 => ?_⟩
  · have q := e (5 * i + j) (by omega) (by omega)
    exact ⟨q.1, by simp only [q.2.1, q.2.2]⟩
  · have q := e (5 * i + j) (by omega) (by omega)
    rw [q.2.1, q.2.2]
    exact h2 j j0 j1
theorem zMI_fr {σ t : zS} (h : zMI σ) (hk : ∀ k : Nat, k ∈ [42, 43, 45, 47, 55, 56, 57, 58, 59] → t k = σ k) (e13 : t 9 13 = σ 9 13) : zMI t := by
  intro i i0 i1
  have q := zmft_fr (i := i) (hk 42 (by decide)) (hk 43 (by decide)) (hk 45 (by decide)) (hk 47 (by decide))
  rw [q.1, q.2.1, q.2.2, hk 55 (by decide)]
  rcases h i i0 (by omega) with h1 | ⟨h1, h2⟩
  · exact Or.inl h1
  · refine Or.inr ⟨h1, zKP_fr h2 (by rw [hk 56 (by decide)]) (fun j _ _ => ⟨by rw [hk 57 (by decide)], by rw [hk 58 (by decide)], by rw [hk 59 (by decide)]⟩)⟩
theorem zMO_fr {σ t : zS} (h : zMO σ) (e9 : t 9 13 = σ 9 13 ∧ t 9 5 = σ 9 5) (e42 : t 42 = σ 42) (e45 : t 45 = σ 45) (e47 : t 47 = σ 47) : zMO t := by
  unfold zMO at *
  rw [e9.1, e9.2, e42, e45, e47]
  exact h
/-- what know says -/
noncomputable def zKNR (σ u : zS) (i : Int) : Prop := (¬ σ 55 i = 0 ∧ σ = u) ∨ (σ 55 i = 0 ∧ zfr [55, 56, 57, 58, 59, 61, 62, 63] σ u ∧ (∀ j : Int, ¬ j = i → u 55 j = σ 55 j ∧ u 56 j = σ 56 j) ∧ u 55 i = 1 ∧ (∀ j : Int, (j < 5 * i ∨ 5 * i + 5 ≤ j) → zk3 u σ j j) ∧ zKP u i (zSD (zmft σ i) (zPM σ) (if 14 < σ 45 (i + 1) - σ 45 i then 0 else σ 45 (i + 1) - σ 45 i)))
/-- know, as the calls use it -/
theorem am_know {σ : zS} {i : Int} (hO : zMO σ) (hi : 0 ≤ i ∧ i < σ 9 13) : zAM 139 [.inr (.inr (9, 0)), .inl i] σ (fun (v : Int) (u : zS) => zKNR σ u i) := by
  have h1 := hO.1
  have h5 := hO.2.1
  have h2 := hO.2.2.1 i hi.1 hi.2
  have hfm : ∀ a k l : Int, 0 ≤ a → 1 ≤ k → k ≤ 3 → a + k ≤ σ 45 (i + 1) - σ 45 i → 0 ≤ l → l < 26 → zmc σ l (σ 45 i + a) k = (if zmft σ i a k l < 0 then 1000000000 else zmft σ i a k l) ∧ zmft σ i a k l ≤ 100 := fun a k l a0 k0 k1 ak l0 l1 => by
    have h3 := zmc_c (l := l) (a := σ 45 i + a) (k := k) hO.2.2.2.2 (fun j j0 j1 => hO.2.2.2.1 j (by omega) (by omega)) ⟨k0, k1⟩ ⟨l0, l1⟩
    unfold zmft
    by_cases e : zmc σ l (σ 45 i + a) k = 1000000000
    · rw [if_pos e, if_pos (by omega), e]; exact ⟨rfl, by omega⟩
    · rw [if_neg e, if_neg (by omega)]; exact ⟨rfl, by omega⟩
  have hP : ∀ x y : Int, 0 ≤ x → x < 26 → 0 ≤ y → y < 26 → 0 ≤ σ 47 (48984 + 26 * x + y) ∧ σ 47 (48984 + 26 * x + y) ≤ 999 ∧ 6 / (1 + σ 47 (48984 + 26 * x + y)) = zPM σ x y := fun x y x0 x1 y0 y1 => by
    have h3 := hO.2.2.2.2 (48984 + 26 * x + y) (by omega) (by omega)
    exact ⟨h3.1, h3.2, rfl⟩
  have hbd : zgb (zmft σ i) (zPM σ) (σ 45 (i + 1) - σ 45 i) := ⟨fun a k l a0 k0 k1 ak l0 l1 => (hfm a k l a0 k0 k1 ak l0 l1).2, fun a b a0 a1 b0 b1 => by
    have h3 := hP a b a0 a1 b0 b1
    rw [← h3.2.2, Int.add_comm]
    exact z6r h3.1⟩
  exact am_X9_know (i := i) (p := σ 45 (i + 1) - σ 45 i) (f := zmft σ i) (P := zPM σ) ⟨hi.1, by omega⟩ (by omega) ⟨by omega, by omega, by omega⟩ (fun j j0 j1 => hO.2.2.2.1 j (by omega) (by omega)) hO.2.2.2.2 (fun _ a k l a0 k0 k1 ak l0 l1 => (hfm a k l a0 k0 k1 ak l0 l1).1) (fun _ => hbd) hP
theorem zKNR_nw {σ u : zS} {i : Int} (hI : zMI σ) (hi : 0 ≤ i ∧ i < σ 9 13) (h : zKNR σ u i) : zNW σ u i := by
  rcases h with ⟨g1, rfl⟩ | ⟨g1, g2, g3, g4, g5, g6⟩
  · rcases hI i hi.1 hi.2 with q | q
    · exact absurd q g1
    · exact ⟨zfr.rf, hI, q.2, g1, fun _ => rfl⟩
  · refine ⟨g2, fun j j0 j1 => ?_, g6, by omega, fun z => absurd g1 z⟩
    have q := zmft_fr (i := j) (g2 42 (by decide)) (g2 43 (by decide)) (g2 45 (by decide)) (g2 47 (by decide))
    rw [q.1, q.2.1, q.2.2]
    by_cases e : j = i
    · rw [e]; exact Or.inr ⟨g4, g6⟩
    · have q3 := g3 j e
      rw [q3.1]
      rw [g2 9 (by decide)] at j1
      rcases hI j j0 j1 with q4 | q4
      · exact Or.inl q4
      · exact Or.inr ⟨q4.1, zKP_fr q4.2 q3.2 (fun x x0 x1 => g5 x (by omega))⟩
