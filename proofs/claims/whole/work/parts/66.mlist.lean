/-! the model's listed, count, copy -/
theorem zcw_M {f : Int → Int → Int → Int} {p v : Int} {W : Int → Nat → Int} {M : Int → Nat} (hf : ∀ a k l : Int, 0 ≤ a → 1 ≤ k → k ≤ 3 → a + k ≤ p → 0 ≤ l → l < 26 → f a k l ≤ 100) (hw : zlet (W v) (M v)) (hm : M v ≤ 12) : (zcw f p W M v = -1 ∧ zsp f (W v) (M v) p 1000000000 (M v) 0 = 1000000000) ∨ (0 ≤ zcw f p W M v ∧ zcw f p W M v ≤ 1200 ∧ zsp f (W v) (M v) p 1000000000 (M v) 0 = zcw f p W M v) := by
  have h := zsp_b (f := f) (w := W v) (m := M v) (p := p) (N := 1000000) (M := 1000000000) hf hw (by decide) (by decide) hm (M v) 0 (Nat.le_refl _) (by decide)
  unfold zcw
  rcases h with ⟨h1, h2⟩ | ⟨h1, h2, h3⟩
  · rw [h1, h2, if_neg (by decide)]
    exact Or.inl ⟨rfl, rfl⟩
  · rw [if_pos (by omega), ← h1]
    exact Or.inr ⟨h2, by omega, rfl⟩
theorem zmft_r {σ : zS} {i : Int} (hO : zMO σ) (hi : 0 ≤ i ∧ i < σ 9 13) : ∀ a k l : Int, 0 ≤ a → 1 ≤ k → k ≤ 3 → a + k ≤ σ 45 (i + 1) - σ 45 i → 0 ≤ l → l < 26 → zmc σ l (σ 45 i + a) k = (if zmft σ i a k l < 0 then 1000000000 else zmft σ i a k l) ∧ -1 ≤ zmft σ i a k l ∧ zmft σ i a k l ≤ 100 := fun a k l a0 k0 k1 ak l0 l1 => by
  have h5 := hO.2.1
  have h2 := hO.2.2.1 i hi.1 hi.2
  have h3 := zmc_c (l := l) (a := σ 45 i + a) (k := k) hO.2.2.2.2 (fun j j0 j1 => hO.2.2.2.1 j (by omega) (by omega)) ⟨k0, k1⟩ ⟨l0, l1⟩
  unfold zmft
  by_cases e : zmc σ l (σ 45 i + a) k = 1000000000
  · rw [if_pos e, if_pos (by omega), e]; exact ⟨rfl, by omega⟩
  · rw [if_neg e, if_neg (by omega)]; exact ⟨rfl, by omega⟩
theorem zmq_p {σ : zS} {i : Int} : zmq σ i = if 14 < σ 45 (i + 1) - σ 45 i then 0 else σ 45 (i + 1) - σ 45 i := rfl
set_option maxRecDepth 100000 in
set_option maxHeartbeats 4000000 in
theorem lp_ls69 {i : Int} {j : Int} {k : Int} {w : Int} {W : Int → Nat → Int} {M : Int → Nat} {σ : zS} (hM : zMQ2 σ) (hW : zWM σ (σ 9 22) W M) (hi : 0 ≤ i ∧ i < σ 9 13) (hk : 0 ≤ k ∧ k ≤ 1) (hw : 0 ≤ w ∧ w < σ 9 22 ∧ 0 ≤ (zcw (zmft σ i) (zmq σ i) W M) w) (K : ∀ t : zS, zfr [60] σ t → ¬ zcntl (zcw (zmft σ i) (zmq σ i) W M) (32 * (zcw (zmft σ i) (zmq σ i) W M) w + w - 1) (σ 9 22).toNat = j → zRuns 134 zX0 (fun (v : Int) (u : zS) => ((¬ (0 ≤ i ∧ i < σ 9 13) ∨ ¬ (0 ≤ k ∧ k ≤ 1)) ∧ σ = u ∧ -1000001 = v) ∨ (((0 ≤ i ∧ i < σ 9 13) ∧ 0 ≤ k ∧ k ≤ 1) ∧ zfr [60] σ u ∧ zlsA (zcw (zmft σ i) (zmq σ i) W M) (σ 9 22).toNat j k v)) 24 [some (.inr (.inr (9, 0))), some (.inl i), some (.inl j), some (.inl k), some (.inl (w + 1)), none, none, none, none] [] t) : ∀ (n : Nat) (y : Int) (t : zS), σ 9 22 + 1 - y < (n : Int) → (0 ≤ y ∧ y ≤ σ 9 22) → (zfr [60] σ t) → zRuns 134 zX0 (fun (v : Int) (u : zS) => ((¬ (0 ≤ i ∧ i < σ 9 13) ∨ ¬ (0 ≤ k ∧ k ≤ 1)) ∧ σ = u ∧ -1000001 = v) ∨ (((0 ≤ i ∧ i < σ 9 13) ∧ 0 ≤ k ∧ k ≤ 1) ∧ zfr [60] σ u ∧ zlsA (zcw (zmft σ i) (zmq σ i) W M) (σ 9 22).toNat j k v)) 69 [some (.inr (.inr (9, 0))), some (.inl i), some (.inl j), some (.inl k), some (.inl w), some (.inl ((zcw (zmft σ i) (zmq σ i) W M) w)), some (.inl (zcntl (zcw (zmft σ i) (zmq σ i) W M) (32 * (zcw (zmft σ i) (zmq σ i) W M) w + w - 1) y.toNat)), some (.inl y), none] [] t := by
  intro n
  induction n with
  | zero =>
    intro y t hn y0 hT
    exfalso
    omega
  | succ n ih =>
    intro y t hn y0 hT
    refine zwalk zmk_134 [(24, [true, true, true, true, true, false, false, false, false]), (69, [true, true, true, true, true, true, true, true, false])] 4 ?_
    show (((t 9 (22 : Int)) ≤ y → ((¬ (zcntl (zcw (zmft σ i) (zmq σ i) W M) (32 * (zcw (zmft σ i) (zmq σ i) W M) w + w - 1) y.toNat) = j → (zI (w + (1 : Int)) ∧ zRuns 134 zX0 (fun (v : Int) (u : zS) => ((¬ (0 ≤ i ∧ i < σ 9 13) ∨ ¬ (0 ≤ k ∧ k ≤ 1)) ∧ σ = u ∧ -1000001 = v) ∨ (((0 ≤ i ∧ i < σ 9 13) ∧ 0 ≤ k ∧ k ≤ 1) ∧ zfr [60] σ u ∧ zlsA (zcw (zmft σ i) (zmq σ i) W M) (σ 9 22).toNat j k v)) 24 [some (.inr (.inr (9, 0))), some (.inl i), some (.inl j), some (.inl k), some (.inl (w + (1 : Int))), none, none, none, none] [] t)) ∧ ((zcntl (zcw (zmft σ i) (zmq σ i) W M) (32 * (zcw (zmft σ i) (zmq σ i) W M) w + w - 1) y.toNat) = j → ((¬ k = 0 → (((¬ (0 ≤ i ∧ i < σ 9 13) ∨ ¬ (0 ≤ k ∧ k ≤ 1)) ∧ σ = t ∧ -1000001 = ((zcw (zmft σ i) (zmq σ i) W M) w)) ∨ (((0 ≤ i ∧ i < σ 9 13) ∧ 0 ≤ k ∧ k ≤ 1) ∧ zfr [60] σ t ∧ zlsA (zcw (zmft σ i) (zmq σ i) W M) (σ 9 22).toNat j k ((zcw (zmft σ i) (zmq σ i) W M) w)))) ∧ (k = 0 → (((¬ (0 ≤ i ∧ i < σ 9 13) ∨ ¬ (0 ≤ k ∧ k ≤ 1)) ∧ σ = t ∧ -1000001 = w) ∨ (((0 ≤ i ∧ i < σ 9 13) ∧ 0 ≤ k ∧ k ≤ 1) ∧ zfr [60] σ t ∧ zlsA (zcw (zmft σ i) (zmq σ i) W M) (σ 9 22).toNat j k w))))))) ∧ (y < (t 9 (22 : Int)) → (zI ((12 : Int) * y) ∧ ((0 ≤ y ∧ y < (30 : Int)) ∧ (∃ Rc : Int → zS → Prop, zAM 133 [.inr (.inr (9, 0)), .inl i, .inr (.inr (52, 0)), .inl ((12 : Int) * y), .inl (t 51 y)] t Rc ∧ ∀ (v1 : Int) (u1 : zS), zI v1 → Rc v1 u1 → ((v1 < ((zcw (zmft σ i) (zmq σ i) W M) w) → (zI ((zcntl (zcw (zmft σ i) (zmq σ i) W M) (32 * (zcw (zmft σ i) (zmq σ i) W M) w + w - 1) y.toNat) + (1 : Int)) ∧ (zI (y + (1 : Int)) ∧ zRuns 134 zX0 (fun (v : Int) (u : zS) => ((¬ (0 ≤ i ∧ i < σ 9 13) ∨ ¬ (0 ≤ k ∧ k ≤ 1)) ∧ σ = u ∧ -1000001 = v) ∨ (((0 ≤ i ∧ i < σ 9 13) ∧ 0 ≤ k ∧ k ≤ 1) ∧ zfr [60] σ u ∧ zlsA (zcw (zmft σ i) (zmq σ i) W M) (σ 9 22).toNat j k v)) 69 [some (.inr (.inr (9, 0))), some (.inl i), some (.inl j), some (.inl k), some (.inl w), some (.inl ((zcw (zmft σ i) (zmq σ i) W M) w)), some (.inl ((zcntl (zcw (zmft σ i) (zmq σ i) W M) (32 * (zcw (zmft σ i) (zmq σ i) W M) w + w - 1) y.toNat) + (1 : Int))), some (.inl (y + (1 : Int))), none] [] u1))) ∧ (((zcw (zmft σ i) (zmq σ i) W M) w) ≤ v1 → ((¬ v1 = ((zcw (zmft σ i) (zmq σ i) W M) w) → (zI ((zcntl (zcw (zmft σ i) (zmq σ i) W M) (32 * (zcw (zmft σ i) (zmq σ i) W M) w + w - 1) y.toNat) + (0 : Int)) ∧ (zI (y + (1 : Int)) ∧ zRuns 134 zX0 (fun (v : Int) (u : zS) => ((¬ (0 ≤ i ∧ i < σ 9 13) ∨ ¬ (0 ≤ k ∧ k ≤ 1)) ∧ σ = u ∧ -1000001 = v) ∨ (((0 ≤ i ∧ i < σ 9 13) ∧ 0 ≤ k ∧ k ≤ 1) ∧ zfr [60] σ u ∧ zlsA (zcw (zmft σ i) (zmq σ i) W M) (σ 9 22).toNat j k v)) 69 [some (.inr (.inr (9, 0))), some (.inl i), some (.inl j), some (.inl k), some (.inl w), some (.inl ((zcw (zmft σ i) (zmq σ i) W M) w)), some (.inl ((zcntl (zcw (zmft σ i) (zmq σ i) W M) (32 * (zcw (zmft σ i) (zmq σ i) W M) w + w - 1) y.toNat) + (0 : Int))), some (.inl (y + (1 : Int))), none] [] u1))) ∧ (v1 = ((zcw (zmft σ i) (zmq σ i) W M) w) → ((w ≤ y → (zI ((zcntl (zcw (zmft σ i) (zmq σ i) W M) (32 * (zcw (zmft σ i) (zmq σ i) W M) w + w - 1) y.toNat) + (0 : Int)) ∧ (zI (y + (1 : Int)) ∧ zRuns 134 zX0 (fun (v : Int) (u : zS) => ((¬ (0 ≤ i ∧ i < σ 9 13) ∨ ¬ (0 ≤ k ∧ k ≤ 1)) ∧ σ = u ∧ -1000001 = v) ∨ (((0 ≤ i ∧ i < σ 9 13) ∧ 0 ≤ k ∧ k ≤ 1) ∧ zfr [60] σ u ∧ zlsA (zcw (zmft σ i) (zmq σ i) W M) (σ 9 22).toNat j k v)) 69 [some (.inr (.inr (9, 0))), some (.inl i), some (.inl j), some (.inl k), some (.inl w), some (.inl ((zcw (zmft σ i) (zmq σ i) W M) w)), some (.inl ((zcntl (zcw (zmft σ i) (zmq σ i) W M) (32 * (zcw (zmft σ i) (zmq σ i) W M) w + w - 1) y.toNat) + (0 : Int))), some (.inl (y + (1 : Int))), none] [] u1))) ∧ (y < w → (zI ((zcntl (zcw (zmft σ i) (zmq σ i) W M) (32 * (zcw (zmft σ i) (zmq σ i) W M) w + w - 1) y.toNat) + (1 : Int)) ∧ (zI (y + (1 : Int)) ∧ zRuns 134 zX0 (fun (v : Int) (u : zS) => ((¬ (0 ≤ i ∧ i < σ 9 13) ∨ ¬ (0 ≤ k ∧ k ≤ 1)) ∧ σ = u ∧ -1000001 = v) ∨ (((0 ≤ i ∧ i < σ 9 13) ∧ 0 ≤ k ∧ k ≤ 1) ∧ zfr [60] σ u ∧ zlsA (zcw (zmft σ i) (zmq σ i) W M) (σ 9 22).toNat j k v)) 69 [some (.inr (.inr (9, 0))), some (.inl i), some (.inl j), some (.inl k), some (.inl w), some (.inl ((zcw (zmft σ i) (zmq σ i) W M) w)), some (.inl ((zcntl (zcw (zmft σ i) (zmq σ i) W M) (32 * (zcw (zmft σ i) (zmq σ i) W M) w + w - 1) y.toNat) + (1 : Int))), some (.inl (y + (1 : Int))), none] [] u1)))))))))))))
    have h13 := hM.1.1
    have hL := hM.2.2
    have h5 := hM.1.2.1
    have h2' := hM.1.2.2.1 i hi.1 hi.2
    have e9 : t 9 = σ 9 := hT 9 (by decide)
    have e45 : t 45 = σ 45 := hT 45 (by decide)
    have e42 : t 42 = σ 42 := hT 42 (by decide)
    have e43 : t 43 = σ 43 := hT 43 (by decide)
    have e47 : t 47 = σ 47 := hT 47 (by decide)
    have e51 : t 51 = σ 51 := hT 51 (by decide)
    have e52 : t 52 = σ 52 := hT 52 (by decide)
    have e922 : t 9 22 = σ 9 22 := by rw [e9]
    have hfr := zmft_r hM.1 hi
    have hzl : 0 ≤ σ 9 22 ∧ σ 9 22 ≤ 30 := hL
    have hwd : ∀ y : Int, 0 ≤ y → y < σ 9 22 → (zlet (W y) (M y) ∧ (1 ≤ M y ∧ M y ≤ 12) ∧ t 51 y = (M y : Int) ∧ ∀ j : Int, 0 ≤ j → j < M y → t 52 (12 * y + j) = W y j.toNat) ∧ (((zcw (zmft σ i) (zmq σ i) W M) y = -1 ∧ zsp (zmft σ i) (W y) (M y) (zmq σ i) 1000000000 (M y) 0 = 1000000000) ∨ (0 ≤ (zcw (zmft σ i) (zmq σ i) W M) y ∧ (zcw (zmft σ i) (zmq σ i) W M) y ≤ 1200 ∧ zsp (zmft σ i) (W y) (M y) (zmq σ i) 1000000000 (M y) 0 = (zcw (zmft σ i) (zmq σ i) W M) y)) := fun y y0 y1 => by
      have q := hW y y0 y1
      rw [e51, e52]
      refine ⟨q, zcw_M (fun a k l a0 k0 k1 ak l0 l1 => (zgb_m hM.1 hi).1 a k l a0 k0 k1 ak l0 l1) q.1 q.2.1.2⟩
    have hcw9 := (hwd w hw.1 hw.2.1).2
    have hcr : 0 ≤ (zcntl (zcw (zmft σ i) (zmq σ i) W M) (32 * (zcw (zmft σ i) (zmq σ i) W M) w + w - 1) y.toNat) ∧ (zcntl (zcw (zmft σ i) (zmq σ i) W M) (32 * (zcw (zmft σ i) (zmq σ i) W M) w + w - 1) y.toNat) ≤ y := by
      have key : ∀ n : Nat, 0 ≤ zcntl (zcw (zmft σ i) (zmq σ i) W M) (32 * (zcw (zmft σ i) (zmq σ i) W M) w + w - 1) n ∧ zcntl (zcw (zmft σ i) (zmq σ i) W M) (32 * (zcw (zmft σ i) (zmq σ i) W M) w + w - 1) n ≤ n := by
        intro n
        induction n with
        | zero => exact ⟨Int.le_refl _, Int.le_refl _⟩
        | succ n ih => simp only [zcntl]; split <;> omega
      have := key y.toNat
      omega
    have hs9 : (y + 1).toNat = y.toNat + 1 := by omega
    have hyy : ((y.toNat : Nat) : Int) = y := by omega
    have hst : ∀ x : Int, zcntl (zcw (zmft σ i) (zmq σ i) W M) x (y.toNat + 1) = zcntl (zcw (zmft σ i) (zmq σ i) W M) x y.toNat + (if 0 ≤ (zcw (zmft σ i) (zmq σ i) W M) y ∧ 32 * (zcw (zmft σ i) (zmq σ i) W M) y + y ≤ x then 1 else 0) := fun x => by
      show zcntl (zcw (zmft σ i) (zmq σ i) W M) x y.toNat + (if 0 ≤ (zcw (zmft σ i) (zmq σ i) W M) ((y.toNat : Nat) : Int) ∧ 32 * (zcw (zmft σ i) (zmq σ i) W M) ((y.toNat : Nat) : Int) + ((y.toNat : Nat) : Int) ≤ x then 1 else 0) = _
      rw [hyy]
    refine ⟨?_, ?_⟩
    · intro h1
      refine ⟨?_, ?_⟩
      · intro h2
        refine ⟨by (first | exact ⟨by omega, by omega⟩ | (exfalso; omega)), ?_⟩
        refine K t hT (fun z => ?_)
        rw [show (σ 9 22).toNat = y.toNat by omega] at z
        omega
      · intro h3
        refine ⟨?_, ?_⟩
        · intro h4
          refine Or.inr ⟨⟨hi, hk⟩, hT, Or.inl ⟨w, ⟨hw.1, by omega, hw.2.2⟩, ?_, ?_⟩⟩
          · rw [show (σ 9 22).toNat = y.toNat by omega]; assumption
          · first | (rw [if_pos (by omega)]) | (rw [if_neg (by omega)])
        · intro h5
          refine Or.inr ⟨⟨hi, hk⟩, hT, Or.inl ⟨w, ⟨hw.1, by omega, hw.2.2⟩, ?_, ?_⟩⟩
          · rw [show (σ 9 22).toNat = y.toNat by omega]; assumption
          · first | (rw [if_pos (by omega)]) | (rw [if_neg (by omega)])
    · intro h6
      refine ⟨by (first | exact ⟨by omega, by omega⟩ | (exfalso; omega)), ?_⟩
      refine ⟨by (first | exact ⟨by omega, by omega⟩ | (exfalso; omega)), ?_⟩
      have hy := hwd y (by omega) (by omega)
      rw [hy.1.2.2.1]
      refine ⟨_, am_X9_spelll (q0 := 12 * y) (p := σ 45 (i + 1) - σ 45 i) (w := W y) (n9 := M y) (f := zmft σ i) (by omega) (by omega) (hy.1.1) (hy.1.2.1) (by rw [e45]; omega) (fun j j0 j1 => by rw [e42]; rw [e45] at j0 j1; exact hM.1.2.2.2.1 j (by omega) (by omega)) (by rw [e47]; exact hM.1.2.2.2.2) (fun _ a k l a0 k0 k1 ak l0 l1 => by rw [e45, zmc_fr e42 e43 e47]; exact hfr a k l a0 k0 k1 ak l0 l1) (⟨by omega, by omega, hy.1.2.2.2⟩), ?_⟩
      intro v1 u1 hv1
      intro kv1
      obtain ⟨hv1a, hv1b⟩ := hv1
      obtain ⟨s1, -, s3⟩ := kv1
      rw [← zmq_p] at s3
      have hT2 : zfr [60] σ u1 := fun q hq => by rw [s1 q hq, hT q hq]
      have f922 : u1 9 22 = σ 9 22 := by rw [hT2 9 (by decide)]
      have hcy := hy.2
      rw [← s3] at hcy
      refine ⟨?_, ?_⟩
      · intro h7
        refine ⟨by (first | exact ⟨by omega, by omega⟩ | (exfalso; omega)), ?_⟩
        refine ⟨by (first | exact ⟨by omega, by omega⟩ | (exfalso; omega)), ?_⟩
        have hI := ih (y + 1) u1 (by omega) ⟨by omega, by omega⟩ hT2
        rw [hs9, hst, if_pos ⟨by omega, by omega⟩] at hI
        exact hI
      · intro h8
        refine ⟨?_, ?_⟩
        · intro h9
          refine ⟨by (first | exact ⟨by omega, by omega⟩ | (exfalso; omega)), ?_⟩
          refine ⟨by (first | exact ⟨by omega, by omega⟩ | (exfalso; omega)), ?_⟩
          have hI := ih (y + 1) u1 (by omega) ⟨by omega, by omega⟩ hT2
          rw [hs9, hst, if_neg (by omega)] at hI
          exact hI
        · intro h10
          refine ⟨?_, ?_⟩
          · intro h11
            refine ⟨by (first | exact ⟨by omega, by omega⟩ | (exfalso; omega)), ?_⟩
            refine ⟨by (first | exact ⟨by omega, by omega⟩ | (exfalso; omega)), ?_⟩
            have hI := ih (y + 1) u1 (by omega) ⟨by omega, by omega⟩ hT2
            rw [hs9, hst, if_neg (by omega)] at hI
            exact hI
          · intro h12
            refine ⟨by (first | exact ⟨by omega, by omega⟩ | (exfalso; omega)), ?_⟩
            refine ⟨by (first | exact ⟨by omega, by omega⟩ | (exfalso; omega)), ?_⟩
            have hI := ih (y + 1) u1 (by omega) ⟨by omega, by omega⟩ hT2
            rw [hs9, hst, if_pos ⟨by omega, by omega⟩] at hI
            exact hI
set_option maxRecDepth 100000 in
set_option maxHeartbeats 4000000 in
theorem lp_ls24 {i : Int} {j : Int} {k : Int} {W : Int → Nat → Int} {M : Int → Nat} {σ : zS} (hM : zMQ2 σ) (hW : zWM σ (σ 9 22) W M) (hi : 0 ≤ i ∧ i < σ 9 13) (hk : 0 ≤ k ∧ k ≤ 1) : ∀ (n : Nat) (w : Int) (t : zS), σ 9 22 + 1 - w < (n : Int) → (0 ≤ w ∧ w ≤ σ 9 22) → (zfr [60] σ t) → (∀ y : Int, 0 ≤ y → y < w → 0 ≤ (zcw (zmft σ i) (zmq σ i) W M) y → ¬ zcntl (zcw (zmft σ i) (zmq σ i) W M) (32 * (zcw (zmft σ i) (zmq σ i) W M) y + y - 1) (σ 9 22).toNat = j) → zRuns 134 zX0 (fun (v : Int) (u : zS) => ((¬ (0 ≤ i ∧ i < σ 9 13) ∨ ¬ (0 ≤ k ∧ k ≤ 1)) ∧ σ = u ∧ -1000001 = v) ∨ (((0 ≤ i ∧ i < σ 9 13) ∧ 0 ≤ k ∧ k ≤ 1) ∧ zfr [60] σ u ∧ zlsA (zcw (zmft σ i) (zmq σ i) W M) (σ 9 22).toNat j k v)) 24 [some (.inr (.inr (9, 0))), some (.inl i), some (.inl j), some (.inl k), some (.inl w), none, none, none, none] [] t := by
  intro n
  induction n with
  | zero =>
    intro w t hn w0 hT hno
    exfalso
    omega
  | succ n ih =>
    intro w t hn w0 hT hno
    refine zwalk zmk_134 [(24, [true, true, true, true, true, false, false, false, false]), (69, [true, true, true, true, true, true, true, true, false])] 3 ?_
    show (((t 9 (22 : Int)) ≤ w → (((¬ (0 ≤ i ∧ i < σ 9 13) ∨ ¬ (0 ≤ k ∧ k ≤ 1)) ∧ σ = t ∧ -1000001 = (-1000000 : Int)) ∨ (((0 ≤ i ∧ i < σ 9 13) ∧ 0 ≤ k ∧ k ≤ 1) ∧ zfr [60] σ t ∧ zlsA (zcw (zmft σ i) (zmq σ i) W M) (σ 9 22).toNat j k (-1000000 : Int)))) ∧ (w < (t 9 (22 : Int)) → (zI ((12 : Int) * w) ∧ ((0 ≤ w ∧ w < (30 : Int)) ∧ (∃ Rc : Int → zS → Prop, zAM 133 [.inr (.inr (9, 0)), .inl i, .inr (.inr (52, 0)), .inl ((12 : Int) * w), .inl (t 51 w)] t Rc ∧ ∀ (v1 : Int) (u1 : zS), zI v1 → Rc v1 u1 → (((1000000000 : Int) ≤ v1 → (zI (w + (1 : Int)) ∧ zRuns 134 zX0 (fun (v : Int) (u : zS) => ((¬ (0 ≤ i ∧ i < σ 9 13) ∨ ¬ (0 ≤ k ∧ k ≤ 1)) ∧ σ = u ∧ -1000001 = v) ∨ (((0 ≤ i ∧ i < σ 9 13) ∧ 0 ≤ k ∧ k ≤ 1) ∧ zfr [60] σ u ∧ zlsA (zcw (zmft σ i) (zmq σ i) W M) (σ 9 22).toNat j k v)) 24 [some (.inr (.inr (9, 0))), some (.inl i), some (.inl j), some (.inl k), some (.inl (w + (1 : Int))), none, none, none, none] [] u1)) ∧ (v1 < (1000000000 : Int) → zRuns 134 zX0 (fun (v : Int) (u : zS) => ((¬ (0 ≤ i ∧ i < σ 9 13) ∨ ¬ (0 ≤ k ∧ k ≤ 1)) ∧ σ = u ∧ -1000001 = v) ∨ (((0 ≤ i ∧ i < σ 9 13) ∧ 0 ≤ k ∧ k ≤ 1) ∧ zfr [60] σ u ∧ zlsA (zcw (zmft σ i) (zmq σ i) W M) (σ 9 22).toNat j k v)) 69 [some (.inr (.inr (9, 0))), some (.inl i), some (.inl j), some (.inl k), some (.inl w), some (.inl v1), some (.inl (0 : Int)), some (.inl (0 : Int)), none] [] u1)))))))
    have h13 := hM.1.1
    have hL := hM.2.2
    have h5 := hM.1.2.1
    have h2' := hM.1.2.2.1 i hi.1 hi.2
    have e9 : t 9 = σ 9 := hT 9 (by decide)
    have e45 : t 45 = σ 45 := hT 45 (by decide)
    have e42 : t 42 = σ 42 := hT 42 (by decide)
    have e43 : t 43 = σ 43 := hT 43 (by decide)
    have e47 : t 47 = σ 47 := hT 47 (by decide)
    have e51 : t 51 = σ 51 := hT 51 (by decide)
    have e52 : t 52 = σ 52 := hT 52 (by decide)
    have e922 : t 9 22 = σ 9 22 := by rw [e9]
    have hfr := zmft_r hM.1 hi
    have hzl : 0 ≤ σ 9 22 ∧ σ 9 22 ≤ 30 := hL
    have hwd : ∀ y : Int, 0 ≤ y → y < σ 9 22 → (zlet (W y) (M y) ∧ (1 ≤ M y ∧ M y ≤ 12) ∧ t 51 y = (M y : Int) ∧ ∀ j : Int, 0 ≤ j → j < M y → t 52 (12 * y + j) = W y j.toNat) ∧ (((zcw (zmft σ i) (zmq σ i) W M) y = -1 ∧ zsp (zmft σ i) (W y) (M y) (zmq σ i) 1000000000 (M y) 0 = 1000000000) ∨ (0 ≤ (zcw (zmft σ i) (zmq σ i) W M) y ∧ (zcw (zmft σ i) (zmq σ i) W M) y ≤ 1200 ∧ zsp (zmft σ i) (W y) (M y) (zmq σ i) 1000000000 (M y) 0 = (zcw (zmft σ i) (zmq σ i) W M) y)) := fun y y0 y1 => by
      have q := hW y y0 y1
      rw [e51, e52]
      refine ⟨q, zcw_M (fun a k l a0 k0 k1 ak l0 l1 => (zgb_m hM.1 hi).1 a k l a0 k0 k1 ak l0 l1) q.1 q.2.1.2⟩
    
    refine ⟨?_, ?_⟩
    · intro h1
      exact Or.inr ⟨⟨hi, hk⟩, hT, Or.inr ⟨fun y y0 y1 y2 => hno y y0 (by omega) y2, rfl⟩⟩
    · intro h2
      refine ⟨by (first | exact ⟨by omega, by omega⟩ | (exfalso; omega)), ?_⟩
      refine ⟨by (first | exact ⟨by omega, by omega⟩ | (exfalso; omega)), ?_⟩
      have hy := hwd w (by omega) (by omega)
      rw [hy.1.2.2.1]
      refine ⟨_, am_X9_spelll (q0 := 12 * w) (p := σ 45 (i + 1) - σ 45 i) (w := W w) (n9 := M w) (f := zmft σ i) (by omega) (by omega) (hy.1.1) (hy.1.2.1) (by rw [e45]; omega) (fun j j0 j1 => by rw [e42]; rw [e45] at j0 j1; exact hM.1.2.2.2.1 j (by omega) (by omega)) (by rw [e47]; exact hM.1.2.2.2.2) (fun _ a k l a0 k0 k1 ak l0 l1 => by rw [e45, zmc_fr e42 e43 e47]; exact hfr a k l a0 k0 k1 ak l0 l1) (⟨by omega, by omega, hy.1.2.2.2⟩), ?_⟩
      intro v1 u1 hv1
      intro kv1
      obtain ⟨hv1a, hv1b⟩ := hv1
      obtain ⟨s1, -, s3⟩ := kv1
      rw [← zmq_p] at s3
      have hT2 : zfr [60] σ u1 := fun q hq => by rw [s1 q hq, hT q hq]
      have f922 : u1 9 22 = σ 9 22 := by rw [hT2 9 (by decide)]
      have hcy := hy.2
      rw [← s3] at hcy
      refine ⟨?_, ?_⟩
      · intro h3
        refine ⟨by (first | exact ⟨by omega, by omega⟩ | (exfalso; omega)), ?_⟩
        refine ih (w + 1) u1 (by omega) ⟨by omega, by omega⟩ hT2 (fun y y0 y1 y2 => ?_)
        by_cases e : y = w
        · rw [e] at y2; omega
        · exact hno y y0 (by omega) y2
      · intro h4
        have ec : v1 = (zcw (zmft σ i) (zmq σ i) W M) w := by omega
        subst ec
        refine lp_ls69 hM hW hi hk ⟨by omega, by omega, by omega⟩ (fun t9 q1 q2 => ih (w + 1) t9 (by omega) ⟨by omega, by omega⟩ q1 (fun y y0 y1 y2 => ?_)) ((σ 9 22).toNat + 2) 0 u1 (by omega) ⟨by omega, by omega⟩ hT2
        by_cases e : y = w
        · rw [e]; exact q2
        · exact hno y y0 (by omega) y2
set_option maxRecDepth 100000 in
set_option maxHeartbeats 4000000 in
theorem am_X9_listed {σ : zS} {i : Int} {j : Int} {k : Int} {W : Int → Nat → Int} {M : Int → Nat} (hM : zMQ2 σ) (hW : zWM σ (σ 9 22) W M) : zAM 134 [.inr (.inr (9, 0)), .inl i, .inl j, .inl k] σ (fun (v : Int) (u : zS) => ((¬ (0 ≤ i ∧ i < σ 9 13) ∨ ¬ (0 ≤ k ∧ k ≤ 1)) ∧ σ = u ∧ -1000001 = v) ∨ (((0 ≤ i ∧ i < σ 9 13) ∧ 0 ≤ k ∧ k ≤ 1) ∧ zfr [60] σ u ∧ zlsA (zcw (zmft σ i) (zmq σ i) W M) (σ 9 22).toNat j k v)) := by
  refine zam (by decide) (Nat.le_of_ble_eq_true rfl) ?_
  refine zwalk zmk_134 [(24, [true, true, true, true, true, false, false, false, false]), (69, [true, true, true, true, true, true, true, true, false])] 3 ?_
  show (∃ Rc : Int → zS → Prop, zAM 116 [.inr (.inr (9, 0)), .inl i] σ Rc ∧ ∀ (v1 : Int) (u1 : zS), zI v1 → Rc v1 u1 → ((v1 = 0 → (((¬ (0 ≤ i ∧ i < σ 9 13) ∨ ¬ (0 ≤ k ∧ k ≤ 1)) ∧ σ = u1 ∧ -1000001 = (-1000001 : Int)) ∨ (((0 ≤ i ∧ i < σ 9 13) ∧ 0 ≤ k ∧ k ≤ 1) ∧ zfr [60] σ u1 ∧ zlsA (zcw (zmft σ i) (zmq σ i) W M) (σ 9 22).toNat j k (-1000001 : Int)))) ∧ (¬ v1 = 0 → (∃ Rc : Int → zS → Prop, zAM 103 [.inr (.inl k), .inr (.inl (0 : Int)), .inr (.inl (1 : Int))] u1 Rc ∧ ∀ (v2 : Int) (u2 : zS), zI v2 → Rc v2 u2 → ((¬ v2 = 0 → zRuns 134 zX0 (fun (v : Int) (u : zS) => ((¬ (0 ≤ i ∧ i < σ 9 13) ∨ ¬ (0 ≤ k ∧ k ≤ 1)) ∧ σ = u ∧ -1000001 = v) ∨ (((0 ≤ i ∧ i < σ 9 13) ∧ 0 ≤ k ∧ k ≤ 1) ∧ zfr [60] σ u ∧ zlsA (zcw (zmft σ i) (zmq σ i) W M) (σ 9 22).toNat j k v)) 24 [some (.inr (.inr (9, 0))), some (.inl i), some (.inl j), some (.inl k), some (.inl (0 : Int)), none, none, none, none] [] u2) ∧ (v2 = 0 → (((¬ (0 ≤ i ∧ i < σ 9 13) ∨ ¬ (0 ≤ k ∧ k ≤ 1)) ∧ σ = u2 ∧ -1000001 = (-1000001 : Int)) ∨ (((0 ≤ i ∧ i < σ 9 13) ∧ 0 ≤ k ∧ k ≤ 1) ∧ zfr [60] σ u2 ∧ zlsA (zcw (zmft σ i) (zmq σ i) W M) (σ 9 22).toNat j k (-1000001 : Int)))))))))
  refine ⟨_, am_X9_isInk (hM.1.1), ?_⟩
  intro v1 u1 hv1
  rintro ⟨rfl, (⟨rfl, cv1⟩ | ⟨rfl, cv1⟩)⟩
  · refine ⟨?_, ?_⟩
    · exact fun h => absurd h (by decide)
    · intro _
      refine ⟨_, am_X9_in, ?_⟩
      intro v2 u2 hv2
      rintro ⟨rfl, (⟨rfl, cv2⟩ | ⟨rfl, cv2⟩)⟩
      · refine ⟨?_, ?_⟩
        · intro _
          have hL : 0 ≤ σ 9 22 ∧ σ 9 22 ≤ 30 := hM.2.2
          exact lp_ls24 hM hW cv1 (by omega) ((σ 9 22).toNat + 2) 0 σ (by omega) ⟨by omega, by omega⟩ zfr.rf (fun y y0 y1 => by omega)
        · exact fun h => absurd h (by decide)
      · refine ⟨?_, ?_⟩
        · exact fun h => absurd h (by decide)
        · intro _
          exact Or.inl ⟨by omega, rfl, rfl⟩
  · refine ⟨?_, ?_⟩
    · intro _
      exact Or.inl ⟨by omega, rfl, rfl⟩
    · exact fun h => absurd h (by decide)
set_option maxRecDepth 100000 in
set_option maxHeartbeats 4000000 in
theorem lp_c91 {k : Int} {σ : zS} (hk : 0 ≤ k ∧ k ≤ 7) : ∀ (n : Nat) (j : Int) (m : Int), 49661 - j < (n : Int) → (48984 ≤ j ∧ j ≤ 49660) → ((k = 4 ∧ m = zps (σ 47) 48984 (j - 48984).toNat) ∨ (¬ k = 4 ∧ (k = 0 → m = zps (σ 37) 0 8) ∧ (k = 3 → m = zps (σ 47) 0 48984) ∧ 0 ≤ m ∧ m ≤ 100000)) → zRuns 156 zX0 (fun (v : Int) (u : zS) => ((¬ (0 ≤ k ∧ k ≤ 7)) ∧ σ = u ∧ -1000001 = v) ∨ ((0 ≤ k ∧ k ≤ 7) ∧ σ = u ∧ (if k = 0 then zps (σ 37) 0 8 else if k = 1 then σ 9 13 else if k = 2 then σ 9 9 else if k = 3 then zps (σ 47) 0 48984 else if k = 4 then zps (σ 47) 48984 676 else if k = 5 then σ 9 22 else if k = 6 then σ 9 25 else σ 9 20) = v)) 91 [some (.inr (.inr (9, 0))), some (.inl k), some (.inl m), some (.inl j)] [] σ := by
  intro n
  induction n with
  | zero =>
    intro j m hn j0 hm
    exfalso
    omega
  | succ n ih =>
    intro j m hn j0 hm
    refine zwalk zmk_156 [(19, [true, true, true, true]), (54, [true, true, true, true]), (91, [true, true, true, true])] 8 ?_
    show (((49660 : Int) ≤ j → ((¬ k = (1 : Int) → ((¬ k = (2 : Int) → ((¬ k = (5 : Int) → ((¬ k = (6 : Int) → ((¬ k = (7 : Int) → (((¬ (0 ≤ k ∧ k ≤ 7)) ∧ σ = σ ∧ -1000001 = m) ∨ ((0 ≤ k ∧ k ≤ 7) ∧ σ = σ ∧ (if k = 0 then zps (σ 37) 0 8 else if k = 1 then σ 9 13 else if k = 2 then σ 9 9 else if k = 3 then zps (σ 47) 0 48984 else if k = 4 then zps (σ 47) 48984 676 else if k = 5 then σ 9 22 else if k = 6 then σ 9 25 else σ 9 20) = m))) ∧ (k = (7 : Int) → (((¬ (0 ≤ k ∧ k ≤ 7)) ∧ σ = σ ∧ -1000001 = (σ 9 (20 : Int))) ∨ ((0 ≤ k ∧ k ≤ 7) ∧ σ = σ ∧ (if k = 0 then zps (σ 37) 0 8 else if k = 1 then σ 9 13 else if k = 2 then σ 9 9 else if k = 3 then zps (σ 47) 0 48984 else if k = 4 then zps (σ 47) 48984 676 else if k = 5 then σ 9 22 else if k = 6 then σ 9 25 else σ 9 20) = (σ 9 (20 : Int))))))) ∧ (k = (6 : Int) → (((¬ (0 ≤ k ∧ k ≤ 7)) ∧ σ = σ ∧ -1000001 = (σ 9 (25 : Int))) ∨ ((0 ≤ k ∧ k ≤ 7) ∧ σ = σ ∧ (if k = 0 then zps (σ 37) 0 8 else if k = 1 then σ 9 13 else if k = 2 then σ 9 9 else if k = 3 then zps (σ 47) 0 48984 else if k = 4 then zps (σ 47) 48984 676 else if k = 5 then σ 9 22 else if k = 6 then σ 9 25 else σ 9 20) = (σ 9 (25 : Int))))))) ∧ (k = (5 : Int) → (((¬ (0 ≤ k ∧ k ≤ 7)) ∧ σ = σ ∧ -1000001 = (σ 9 (22 : Int))) ∨ ((0 ≤ k ∧ k ≤ 7) ∧ σ = σ ∧ (if k = 0 then zps (σ 37) 0 8 else if k = 1 then σ 9 13 else if k = 2 then σ 9 9 else if k = 3 then zps (σ 47) 0 48984 else if k = 4 then zps (σ 47) 48984 676 else if k = 5 then σ 9 22 else if k = 6 then σ 9 25 else σ 9 20) = (σ 9 (22 : Int))))))) ∧ (k = (2 : Int) → (((¬ (0 ≤ k ∧ k ≤ 7)) ∧ σ = σ ∧ -1000001 = (σ 9 (9 : Int))) ∨ ((0 ≤ k ∧ k ≤ 7) ∧ σ = σ ∧ (if k = 0 then zps (σ 37) 0 8 else if k = 1 then σ 9 13 else if k = 2 then σ 9 9 else if k = 3 then zps (σ 47) 0 48984 else if k = 4 then zps (σ 47) 48984 676 else if k = 5 then σ 9 22 else if k = 6 then σ 9 25 else σ 9 20) = (σ 9 (9 : Int))))))) ∧ (k = (1 : Int) → (((¬ (0 ≤ k ∧ k ≤ 7)) ∧ σ = σ ∧ -1000001 = (σ 9 (13 : Int))) ∨ ((0 ≤ k ∧ k ≤ 7) ∧ σ = σ ∧ (if k = 0 then zps (σ 37) 0 8 else if k = 1 then σ 9 13 else if k = 2 then σ 9 9 else if k = 3 then zps (σ 47) 0 48984 else if k = 4 then zps (σ 47) 48984 676 else if k = 5 then σ 9 22 else if k = 6 then σ 9 25 else σ 9 20) = (σ 9 (13 : Int))))))) ∧ (j < (49660 : Int) → ((¬ k = (4 : Int) → ((¬ k = (1 : Int) → ((¬ k = (2 : Int) → ((¬ k = (5 : Int) → ((¬ k = (6 : Int) → ((¬ k = (7 : Int) → (((¬ (0 ≤ k ∧ k ≤ 7)) ∧ σ = σ ∧ -1000001 = m) ∨ ((0 ≤ k ∧ k ≤ 7) ∧ σ = σ ∧ (if k = 0 then zps (σ 37) 0 8 else if k = 1 then σ 9 13 else if k = 2 then σ 9 9 else if k = 3 then zps (σ 47) 0 48984 else if k = 4 then zps (σ 47) 48984 676 else if k = 5 then σ 9 22 else if k = 6 then σ 9 25 else σ 9 20) = m))) ∧ (k = (7 : Int) → (((¬ (0 ≤ k ∧ k ≤ 7)) ∧ σ = σ ∧ -1000001 = (σ 9 (20 : Int))) ∨ ((0 ≤ k ∧ k ≤ 7) ∧ σ = σ ∧ (if k = 0 then zps (σ 37) 0 8 else if k = 1 then σ 9 13 else if k = 2 then σ 9 9 else if k = 3 then zps (σ 47) 0 48984 else if k = 4 then zps (σ 47) 48984 676 else if k = 5 then σ 9 22 else if k = 6 then σ 9 25 else σ 9 20) = (σ 9 (20 : Int))))))) ∧ (k = (6 : Int) → (((¬ (0 ≤ k ∧ k ≤ 7)) ∧ σ = σ ∧ -1000001 = (σ 9 (25 : Int))) ∨ ((0 ≤ k ∧ k ≤ 7) ∧ σ = σ ∧ (if k = 0 then zps (σ 37) 0 8 else if k = 1 then σ 9 13 else if k = 2 then σ 9 9 else if k = 3 then zps (σ 47) 0 48984 else if k = 4 then zps (σ 47) 48984 676 else if k = 5 then σ 9 22 else if k = 6 then σ 9 25 else σ 9 20) = (σ 9 (25 : Int))))))) ∧ (k = (5 : Int) → (((¬ (0 ≤ k ∧ k ≤ 7)) ∧ σ = σ ∧ -1000001 = (σ 9 (22 : Int))) ∨ ((0 ≤ k ∧ k ≤ 7) ∧ σ = σ ∧ (if k = 0 then zps (σ 37) 0 8 else if k = 1 then σ 9 13 else if k = 2 then σ 9 9 else if k = 3 then zps (σ 47) 0 48984 else if k = 4 then zps (σ 47) 48984 676 else if k = 5 then σ 9 22 else if k = 6 then σ 9 25 else σ 9 20) = (σ 9 (22 : Int))))))) ∧ (k = (2 : Int) → (((¬ (0 ≤ k ∧ k ≤ 7)) ∧ σ = σ ∧ -1000001 = (σ 9 (9 : Int))) ∨ ((0 ≤ k ∧ k ≤ 7) ∧ σ = σ ∧ (if k = 0 then zps (σ 37) 0 8 else if k = 1 then σ 9 13 else if k = 2 then σ 9 9 else if k = 3 then zps (σ 47) 0 48984 else if k = 4 then zps (σ 47) 48984 676 else if k = 5 then σ 9 22 else if k = 6 then σ 9 25 else σ 9 20) = (σ 9 (9 : Int))))))) ∧ (k = (1 : Int) → (((¬ (0 ≤ k ∧ k ≤ 7)) ∧ σ = σ ∧ -1000001 = (σ 9 (13 : Int))) ∨ ((0 ≤ k ∧ k ≤ 7) ∧ σ = σ ∧ (if k = 0 then zps (σ 37) 0 8 else if k = 1 then σ 9 13 else if k = 2 then σ 9 9 else if k = 3 then zps (σ 47) 0 48984 else if k = 4 then zps (σ 47) 48984 676 else if k = 5 then σ 9 22 else if k = 6 then σ 9 25 else σ 9 20) = (σ 9 (13 : Int))))))) ∧ (k = (4 : Int) → ((0 ≤ j ∧ j < (49660 : Int)) ∧ (((σ 47 j) ≤ 0 → (zI (m + (0 : Int)) ∧ (zI (j + (1 : Int)) ∧ zRuns 156 zX0 (fun (v : Int) (u : zS) => ((¬ (0 ≤ k ∧ k ≤ 7)) ∧ σ = u ∧ -1000001 = v) ∨ ((0 ≤ k ∧ k ≤ 7) ∧ σ = u ∧ (if k = 0 then zps (σ 37) 0 8 else if k = 1 then σ 9 13 else if k = 2 then σ 9 9 else if k = 3 then zps (σ 47) 0 48984 else if k = 4 then zps (σ 47) 48984 676 else if k = 5 then σ 9 22 else if k = 6 then σ 9 25 else σ 9 20) = v)) 91 [some (.inr (.inr (9, 0))), some (.inl k), some (.inl (m + (0 : Int))), some (.inl (j + (1 : Int)))] [] σ))) ∧ (0 < (σ 47 j) → (zI (m + (1 : Int)) ∧ (zI (j + (1 : Int)) ∧ zRuns 156 zX0 (fun (v : Int) (u : zS) => ((¬ (0 ≤ k ∧ k ≤ 7)) ∧ σ = u ∧ -1000001 = v) ∨ ((0 ≤ k ∧ k ≤ 7) ∧ σ = u ∧ (if k = 0 then zps (σ 37) 0 8 else if k = 1 then σ 9 13 else if k = 2 then σ 9 9 else if k = 3 then zps (σ 47) 0 48984 else if k = 4 then zps (σ 47) 48984 676 else if k = 5 then σ 9 22 else if k = 6 then σ 9 25 else σ 9 20) = v)) 91 [some (.inr (.inr (9, 0))), some (.inl k), some (.inl (m + (1 : Int))), some (.inl (j + (1 : Int)))] [] σ)))))))))
    have zs := zps_s (g := σ 47) j0.1
    have zr := zps_r (g := σ 47) (a := 48984) (n := (j - 48984).toNat)
    refine ⟨?_, ?_⟩
    · intro h1
      refine ⟨?_, ?_⟩
      · intro h2
        refine ⟨?_, ?_⟩
        · intro h3
          refine ⟨?_, ?_⟩
          · intro h4
            refine ⟨?_, ?_⟩
            · intro h5
              refine ⟨?_, ?_⟩
              · intro h6
                have hmm : k = 4 → m = zps (σ 47) 48984 676 := fun q => by
                  rcases hm with ⟨_, e⟩ | ⟨e, _⟩
                  · rw [e, show (j - 48984).toNat = 676 by omega]
                  · exact absurd q e
                refine Or.inr ⟨hk, rfl, ?_⟩
                rcases (show k = 0 ∨ k = 3 ∨ k = 4 by omega) with q | q | q
                · rw [if_pos q]; omega
                · rw [if_neg (by omega), if_neg (by omega), if_neg (by omega), if_pos q]; omega
                · rw [if_neg (by omega), if_neg (by omega), if_neg (by omega), if_neg (by omega), if_pos q]; exact (hmm q).symm
              · intro h7
                have hmm : k = 4 → m = zps (σ 47) 48984 676 := fun q => by
                  rcases hm with ⟨_, e⟩ | ⟨e, _⟩
                  · rw [e, show (j - 48984).toNat = 676 by omega]
                  · exact absurd q e
                refine Or.inr ⟨hk, rfl, ?_⟩
                first | (rw [if_neg (by omega), if_pos (by omega)]) | (rw [if_neg (by omega), if_neg (by omega), if_pos (by omega)]) | (rw [if_neg (by omega), if_neg (by omega), if_neg (by omega), if_neg (by omega), if_neg (by omega), if_pos (by omega)]) | (rw [if_neg (by omega), if_neg (by omega), if_neg (by omega), if_neg (by omega), if_neg (by omega), if_neg (by omega), if_pos (by omega)]) | (rw [if_neg (by omega), if_neg (by omega), if_neg (by omega), if_neg (by omega), if_neg (by omega), if_neg (by omega), if_neg (by omega)])
            · intro h8
              have hmm : k = 4 → m = zps (σ 47) 48984 676 := fun q => by
                rcases hm with ⟨_, e⟩ | ⟨e, _⟩
                · rw [e, show (j - 48984).toNat = 676 by omega]
                · exact absurd q e
              refine Or.inr ⟨hk, rfl, ?_⟩
              first | (rw [if_neg (by omega), if_pos (by omega)]) | (rw [if_neg (by omega), if_neg (by omega), if_pos (by omega)]) | (rw [if_neg (by omega), if_neg (by omega), if_neg (by omega), if_neg (by omega), if_neg (by omega), if_pos (by omega)]) | (rw [if_neg (by omega), if_neg (by omega), if_neg (by omega), if_neg (by omega), if_neg (by omega), if_neg (by omega), if_pos (by omega)]) | (rw [if_neg (by omega), if_neg (by omega), if_neg (by omega), if_neg (by omega), if_neg (by omega), if_neg (by omega), if_neg (by omega)])
          · intro h9
            have hmm : k = 4 → m = zps (σ 47) 48984 676 := fun q => by
              rcases hm with ⟨_, e⟩ | ⟨e, _⟩
              · rw [e, show (j - 48984).toNat = 676 by omega]
              · exact absurd q e
            refine Or.inr ⟨hk, rfl, ?_⟩
            first | (rw [if_neg (by omega), if_pos (by omega)]) | (rw [if_neg (by omega), if_neg (by omega), if_pos (by omega)]) | (rw [if_neg (by omega), if_neg (by omega), if_neg (by omega), if_neg (by omega), if_neg (by omega), if_pos (by omega)]) | (rw [if_neg (by omega), if_neg (by omega), if_neg (by omega), if_neg (by omega), if_neg (by omega), if_neg (by omega), if_pos (by omega)]) | (rw [if_neg (by omega), if_neg (by omega), if_neg (by omega), if_neg (by omega), if_neg (by omega), if_neg (by omega), if_neg (by omega)])
        · intro h10
          have hmm : k = 4 → m = zps (σ 47) 48984 676 := fun q => by
            rcases hm with ⟨_, e⟩ | ⟨e, _⟩
            · rw [e, show (j - 48984).toNat = 676 by omega]
            · exact absurd q e
          refine Or.inr ⟨hk, rfl, ?_⟩
          first | (rw [if_neg (by omega), if_pos (by omega)]) | (rw [if_neg (by omega), if_neg (by omega), if_pos (by omega)]) | (rw [if_neg (by omega), if_neg (by omega), if_neg (by omega), if_neg (by omega), if_neg (by omega), if_pos (by omega)]) | (rw [if_neg (by omega), if_neg (by omega), if_neg (by omega), if_neg (by omega), if_neg (by omega), if_neg (by omega), if_pos (by omega)]) | (rw [if_neg (by omega), if_neg (by omega), if_neg (by omega), if_neg (by omega), if_neg (by omega), if_neg (by omega), if_neg (by omega)])
      · intro h11
        have hmm : k = 4 → m = zps (σ 47) 48984 676 := fun q => by
          rcases hm with ⟨_, e⟩ | ⟨e, _⟩
          · rw [e, show (j - 48984).toNat = 676 by omega]
          · exact absurd q e
        refine Or.inr ⟨hk, rfl, ?_⟩
        first | (rw [if_neg (by omega), if_pos (by omega)]) | (rw [if_neg (by omega), if_neg (by omega), if_pos (by omega)]) | (rw [if_neg (by omega), if_neg (by omega), if_neg (by omega), if_neg (by omega), if_neg (by omega), if_pos (by omega)]) | (rw [if_neg (by omega), if_neg (by omega), if_neg (by omega), if_neg (by omega), if_neg (by omega), if_neg (by omega), if_pos (by omega)]) | (rw [if_neg (by omega), if_neg (by omega), if_neg (by omega), if_neg (by omega), if_neg (by omega), if_neg (by omega), if_neg (by omega)])
    · intro h12
      refine ⟨?_, ?_⟩
      · intro h13
        refine ⟨?_, ?_⟩
        · intro h14
          refine ⟨?_, ?_⟩
          · intro h15
            refine ⟨?_, ?_⟩
            · intro h16
              refine ⟨?_, ?_⟩
              · intro h17
                refine ⟨?_, ?_⟩
                · intro h18
                  have hmm : k = 4 → m = zps (σ 47) 48984 676 := fun q => by
                    rcases hm with ⟨_, e⟩ | ⟨e, _⟩
                    · rw [e, show (j - 48984).toNat = 676 by omega]
                    · exact absurd q e
                  refine Or.inr ⟨hk, rfl, ?_⟩
                  rcases (show k = 0 ∨ k = 3 ∨ k = 4 by omega) with q | q | q
                  · rw [if_pos q]; omega
                  · rw [if_neg (by omega), if_neg (by omega), if_neg (by omega), if_pos q]; omega
                  · rw [if_neg (by omega), if_neg (by omega), if_neg (by omega), if_neg (by omega), if_pos q]; exact (hmm q).symm
                · intro h19
                  have hmm : k = 4 → m = zps (σ 47) 48984 676 := fun q => by
                    rcases hm with ⟨_, e⟩ | ⟨e, _⟩
                    · rw [e, show (j - 48984).toNat = 676 by omega]
                    · exact absurd q e
                  refine Or.inr ⟨hk, rfl, ?_⟩
                  first | (rw [if_neg (by omega), if_pos (by omega)]) | (rw [if_neg (by omega), if_neg (by omega), if_pos (by omega)]) | (rw [if_neg (by omega), if_neg (by omega), if_neg (by omega), if_neg (by omega), if_neg (by omega), if_pos (by omega)]) | (rw [if_neg (by omega), if_neg (by omega), if_neg (by omega), if_neg (by omega), if_neg (by omega), if_neg (by omega), if_pos (by omega)]) | (rw [if_neg (by omega), if_neg (by omega), if_neg (by omega), if_neg (by omega), if_neg (by omega), if_neg (by omega), if_neg (by omega)])
              · intro h20
                have hmm : k = 4 → m = zps (σ 47) 48984 676 := fun q => by
                  rcases hm with ⟨_, e⟩ | ⟨e, _⟩
                  · rw [e, show (j - 48984).toNat = 676 by omega]
                  · exact absurd q e
                refine Or.inr ⟨hk, rfl, ?_⟩
                first | (rw [if_neg (by omega), if_pos (by omega)]) | (rw [if_neg (by omega), if_neg (by omega), if_pos (by omega)]) | (rw [if_neg (by omega), if_neg (by omega), if_neg (by omega), if_neg (by omega), if_neg (by omega), if_pos (by omega)]) | (rw [if_neg (by omega), if_neg (by omega), if_neg (by omega), if_neg (by omega), if_neg (by omega), if_neg (by omega), if_pos (by omega)]) | (rw [if_neg (by omega), if_neg (by omega), if_neg (by omega), if_neg (by omega), if_neg (by omega), if_neg (by omega), if_neg (by omega)])
            · intro h21
              have hmm : k = 4 → m = zps (σ 47) 48984 676 := fun q => by
                rcases hm with ⟨_, e⟩ | ⟨e, _⟩
                · rw [e, show (j - 48984).toNat = 676 by omega]
                · exact absurd q e
              refine Or.inr ⟨hk, rfl, ?_⟩
              first | (rw [if_neg (by omega), if_pos (by omega)]) | (rw [if_neg (by omega), if_neg (by omega), if_pos (by omega)]) | (rw [if_neg (by omega), if_neg (by omega), if_neg (by omega), if_neg (by omega), if_neg (by omega), if_pos (by omega)]) | (rw [if_neg (by omega), if_neg (by omega), if_neg (by omega), if_neg (by omega), if_neg (by omega), if_neg (by omega), if_pos (by omega)]) | (rw [if_neg (by omega), if_neg (by omega), if_neg (by omega), if_neg (by omega), if_neg (by omega), if_neg (by omega), if_neg (by omega)])
          · intro h22
            have hmm : k = 4 → m = zps (σ 47) 48984 676 := fun q => by
              rcases hm with ⟨_, e⟩ | ⟨e, _⟩
              · rw [e, show (j - 48984).toNat = 676 by omega]
              · exact absurd q e
            refine Or.inr ⟨hk, rfl, ?_⟩
            first | (rw [if_neg (by omega), if_pos (by omega)]) | (rw [if_neg (by omega), if_neg (by omega), if_pos (by omega)]) | (rw [if_neg (by omega), if_neg (by omega), if_neg (by omega), if_neg (by omega), if_neg (by omega), if_pos (by omega)]) | (rw [if_neg (by omega), if_neg (by omega), if_neg (by omega), if_neg (by omega), if_neg (by omega), if_neg (by omega), if_pos (by omega)]) | (rw [if_neg (by omega), if_neg (by omega), if_neg (by omega), if_neg (by omega), if_neg (by omega), if_neg (by omega), if_neg (by omega)])
        · intro h23
          have hmm : k = 4 → m = zps (σ 47) 48984 676 := fun q => by
            rcases hm with ⟨_, e⟩ | ⟨e, _⟩
            · rw [e, show (j - 48984).toNat = 676 by omega]
            · exact absurd q e
          refine Or.inr ⟨hk, rfl, ?_⟩
          first | (rw [if_neg (by omega), if_pos (by omega)]) | (rw [if_neg (by omega), if_neg (by omega), if_pos (by omega)]) | (rw [if_neg (by omega), if_neg (by omega), if_neg (by omega), if_neg (by omega), if_neg (by omega), if_pos (by omega)]) | (rw [if_neg (by omega), if_neg (by omega), if_neg (by omega), if_neg (by omega), if_neg (by omega), if_neg (by omega), if_pos (by omega)]) | (rw [if_neg (by omega), if_neg (by omega), if_neg (by omega), if_neg (by omega), if_neg (by omega), if_neg (by omega), if_neg (by omega)])
      · intro h24
        refine ⟨by (first | exact ⟨by omega, by omega⟩ | (exfalso; omega)), ?_⟩
        refine ⟨?_, ?_⟩
        · intro h25
          refine ⟨by (first | exact ⟨by omega, by omega⟩ | (exfalso; omega)), ?_⟩
          refine ⟨by (first | exact ⟨by omega, by omega⟩ | (exfalso; omega)), ?_⟩
          refine ih (j + 1) _ (by omega) ⟨by omega, by omega⟩ (Or.inl ⟨by omega, ?_⟩)
          rw [zs, if_neg (by omega)]
          omega
        · intro h26
          refine ⟨by (first | exact ⟨by omega, by omega⟩ | (exfalso; omega)), ?_⟩
          refine ⟨by (first | exact ⟨by omega, by omega⟩ | (exfalso; omega)), ?_⟩
          refine ih (j + 1) _ (by omega) ⟨by omega, by omega⟩ (Or.inl ⟨by omega, ?_⟩)
          rw [zs, if_pos (by omega)]
          omega
set_option maxRecDepth 100000 in
set_option maxHeartbeats 4000000 in
theorem lp_c54 {k : Int} {σ : zS} (hk : 0 ≤ k ∧ k ≤ 7) : ∀ (n : Nat) (j : Int) (m : Int), 48985 - j < (n : Int) → (0 ≤ j ∧ j ≤ 48984) → ((k = 3 ∧ m = zps (σ 47) 0 (j - 0).toNat) ∨ (¬ k = 3 ∧ (k = 0 → m = zps (σ 37) 0 8) ∧ (¬ k = 0 → m = 0) ∧ 0 ≤ m ∧ m ≤ 8)) → zRuns 156 zX0 (fun (v : Int) (u : zS) => ((¬ (0 ≤ k ∧ k ≤ 7)) ∧ σ = u ∧ -1000001 = v) ∨ ((0 ≤ k ∧ k ≤ 7) ∧ σ = u ∧ (if k = 0 then zps (σ 37) 0 8 else if k = 1 then σ 9 13 else if k = 2 then σ 9 9 else if k = 3 then zps (σ 47) 0 48984 else if k = 4 then zps (σ 47) 48984 676 else if k = 5 then σ 9 22 else if k = 6 then σ 9 25 else σ 9 20) = v)) 54 [some (.inr (.inr (9, 0))), some (.inl k), some (.inl m), some (.inl j)] [] σ := by
  intro n
  induction n with
  | zero =>
    intro j m hn j0 hm
    exfalso
    omega
  | succ n ih =>
    intro j m hn j0 hm
    refine zwalk zmk_156 [(19, [true, true, true, true]), (54, [true, true, true, true]), (91, [true, true, true, true])] 3 ?_
    show (((48984 : Int) ≤ j → zRuns 156 zX0 (fun (v : Int) (u : zS) => ((¬ (0 ≤ k ∧ k ≤ 7)) ∧ σ = u ∧ -1000001 = v) ∨ ((0 ≤ k ∧ k ≤ 7) ∧ σ = u ∧ (if k = 0 then zps (σ 37) 0 8 else if k = 1 then σ 9 13 else if k = 2 then σ 9 9 else if k = 3 then zps (σ 47) 0 48984 else if k = 4 then zps (σ 47) 48984 676 else if k = 5 then σ 9 22 else if k = 6 then σ 9 25 else σ 9 20) = v)) 91 [some (.inr (.inr (9, 0))), some (.inl k), some (.inl m), some (.inl (48984 : Int))] [] σ) ∧ (j < (48984 : Int) → ((¬ k = (3 : Int) → zRuns 156 zX0 (fun (v : Int) (u : zS) => ((¬ (0 ≤ k ∧ k ≤ 7)) ∧ σ = u ∧ -1000001 = v) ∨ ((0 ≤ k ∧ k ≤ 7) ∧ σ = u ∧ (if k = 0 then zps (σ 37) 0 8 else if k = 1 then σ 9 13 else if k = 2 then σ 9 9 else if k = 3 then zps (σ 47) 0 48984 else if k = 4 then zps (σ 47) 48984 676 else if k = 5 then σ 9 22 else if k = 6 then σ 9 25 else σ 9 20) = v)) 91 [some (.inr (.inr (9, 0))), some (.inl k), some (.inl m), some (.inl (48984 : Int))] [] σ) ∧ (k = (3 : Int) → ((0 ≤ j ∧ j < (49660 : Int)) ∧ (((σ 47 j) ≤ 0 → (zI (m + (0 : Int)) ∧ (zI (j + (1 : Int)) ∧ zRuns 156 zX0 (fun (v : Int) (u : zS) => ((¬ (0 ≤ k ∧ k ≤ 7)) ∧ σ = u ∧ -1000001 = v) ∨ ((0 ≤ k ∧ k ≤ 7) ∧ σ = u ∧ (if k = 0 then zps (σ 37) 0 8 else if k = 1 then σ 9 13 else if k = 2 then σ 9 9 else if k = 3 then zps (σ 47) 0 48984 else if k = 4 then zps (σ 47) 48984 676 else if k = 5 then σ 9 22 else if k = 6 then σ 9 25 else σ 9 20) = v)) 54 [some (.inr (.inr (9, 0))), some (.inl k), some (.inl (m + (0 : Int))), some (.inl (j + (1 : Int)))] [] σ))) ∧ (0 < (σ 47 j) → (zI (m + (1 : Int)) ∧ (zI (j + (1 : Int)) ∧ zRuns 156 zX0 (fun (v : Int) (u : zS) => ((¬ (0 ≤ k ∧ k ≤ 7)) ∧ σ = u ∧ -1000001 = v) ∨ ((0 ≤ k ∧ k ≤ 7) ∧ σ = u ∧ (if k = 0 then zps (σ 37) 0 8 else if k = 1 then σ 9 13 else if k = 2 then σ 9 9 else if k = 3 then zps (σ 47) 0 48984 else if k = 4 then zps (σ 47) 48984 676 else if k = 5 then σ 9 22 else if k = 6 then σ 9 25 else σ 9 20) = v)) 54 [some (.inr (.inr (9, 0))), some (.inl k), some (.inl (m + (1 : Int))), some (.inl (j + (1 : Int)))] [] σ)))))))))
    have zs := zps_s (g := σ 47) j0.1
    have zr := zps_r (g := σ 47) (a := 0) (n := (j - 0).toNat)
    refine ⟨?_, ?_⟩
    · intro h1
      refine lp_c91 hk 678 48984 m (by omega) (by omega) ?_
      by_cases q : k = 4
      · refine Or.inl ⟨q, ?_⟩
        show m = 0
        omega
      · refine Or.inr ⟨q, by omega, fun q3 => ?_, by omega, by omega⟩
        rcases hm with ⟨_, e⟩ | ⟨e, _⟩
        · rw [e, show (j - 0).toNat = 48984 by omega]
        · exact absurd q3 e
    · intro h2
      refine ⟨?_, ?_⟩
      · intro h3
        refine lp_c91 hk 678 48984 m (by omega) (by omega) ?_
        by_cases q : k = 4
        · refine Or.inl ⟨q, ?_⟩
          show m = 0
          omega
        · refine Or.inr ⟨q, by omega, fun q3 => ?_, by omega, by omega⟩
          rcases hm with ⟨_, e⟩ | ⟨e, _⟩
          · rw [e, show (j - 0).toNat = 48984 by omega]
          · exact absurd q3 e
      · intro h4
        refine ⟨by (first | exact ⟨by omega, by omega⟩ | (exfalso; omega)), ?_⟩
        refine ⟨?_, ?_⟩
        · intro h5
          refine ⟨by (first | exact ⟨by omega, by omega⟩ | (exfalso; omega)), ?_⟩
          refine ⟨by (first | exact ⟨by omega, by omega⟩ | (exfalso; omega)), ?_⟩
          refine ih (j + 1) _ (by omega) ⟨by omega, by omega⟩ (Or.inl ⟨by omega, ?_⟩)
          rw [zs, if_neg (by omega)]
          omega
        · intro h6
          refine ⟨by (first | exact ⟨by omega, by omega⟩ | (exfalso; omega)), ?_⟩
          refine ⟨by (first | exact ⟨by omega, by omega⟩ | (exfalso; omega)), ?_⟩
          refine ih (j + 1) _ (by omega) ⟨by omega, by omega⟩ (Or.inl ⟨by omega, ?_⟩)
          rw [zs, if_pos (by omega)]
          omega
set_option maxRecDepth 100000 in
set_option maxHeartbeats 4000000 in
theorem lp_c19 {k : Int} {σ : zS} (hk : 0 ≤ k ∧ k ≤ 7) : ∀ (n : Nat) (j : Int) (m : Int), 9 - j < (n : Int) → (0 ≤ j ∧ j ≤ 8) → ((k = 0 ∧ m = zps (σ 37) 0 (j - 0).toNat) ∨ (¬ k = 0 ∧ m = 0)) → zRuns 156 zX0 (fun (v : Int) (u : zS) => ((¬ (0 ≤ k ∧ k ≤ 7)) ∧ σ = u ∧ -1000001 = v) ∨ ((0 ≤ k ∧ k ≤ 7) ∧ σ = u ∧ (if k = 0 then zps (σ 37) 0 8 else if k = 1 then σ 9 13 else if k = 2 then σ 9 9 else if k = 3 then zps (σ 47) 0 48984 else if k = 4 then zps (σ 47) 48984 676 else if k = 5 then σ 9 22 else if k = 6 then σ 9 25 else σ 9 20) = v)) 19 [some (.inr (.inr (9, 0))), some (.inl k), some (.inl m), some (.inl j)] [] σ := by
  intro n
  induction n with
  | zero =>
    intro j m hn j0 hm
    exfalso
    omega
  | succ n ih =>
    intro j m hn j0 hm
    refine zwalk zmk_156 [(19, [true, true, true, true]), (54, [true, true, true, true]), (91, [true, true, true, true])] 3 ?_
    show (((8 : Int) ≤ j → zRuns 156 zX0 (fun (v : Int) (u : zS) => ((¬ (0 ≤ k ∧ k ≤ 7)) ∧ σ = u ∧ -1000001 = v) ∨ ((0 ≤ k ∧ k ≤ 7) ∧ σ = u ∧ (if k = 0 then zps (σ 37) 0 8 else if k = 1 then σ 9 13 else if k = 2 then σ 9 9 else if k = 3 then zps (σ 47) 0 48984 else if k = 4 then zps (σ 47) 48984 676 else if k = 5 then σ 9 22 else if k = 6 then σ 9 25 else σ 9 20) = v)) 54 [some (.inr (.inr (9, 0))), some (.inl k), some (.inl m), some (.inl (0 : Int))] [] σ) ∧ (j < (8 : Int) → ((¬ k = 0 → zRuns 156 zX0 (fun (v : Int) (u : zS) => ((¬ (0 ≤ k ∧ k ≤ 7)) ∧ σ = u ∧ -1000001 = v) ∨ ((0 ≤ k ∧ k ≤ 7) ∧ σ = u ∧ (if k = 0 then zps (σ 37) 0 8 else if k = 1 then σ 9 13 else if k = 2 then σ 9 9 else if k = 3 then zps (σ 47) 0 48984 else if k = 4 then zps (σ 47) 48984 676 else if k = 5 then σ 9 22 else if k = 6 then σ 9 25 else σ 9 20) = v)) 54 [some (.inr (.inr (9, 0))), some (.inl k), some (.inl m), some (.inl (0 : Int))] [] σ) ∧ (k = 0 → ((0 ≤ j ∧ j < (8 : Int)) ∧ (((σ 37 j) ≤ 0 → (zI (m + (0 : Int)) ∧ (zI (j + (1 : Int)) ∧ zRuns 156 zX0 (fun (v : Int) (u : zS) => ((¬ (0 ≤ k ∧ k ≤ 7)) ∧ σ = u ∧ -1000001 = v) ∨ ((0 ≤ k ∧ k ≤ 7) ∧ σ = u ∧ (if k = 0 then zps (σ 37) 0 8 else if k = 1 then σ 9 13 else if k = 2 then σ 9 9 else if k = 3 then zps (σ 47) 0 48984 else if k = 4 then zps (σ 47) 48984 676 else if k = 5 then σ 9 22 else if k = 6 then σ 9 25 else σ 9 20) = v)) 19 [some (.inr (.inr (9, 0))), some (.inl k), some (.inl (m + (0 : Int))), some (.inl (j + (1 : Int)))] [] σ))) ∧ (0 < (σ 37 j) → (zI (m + (1 : Int)) ∧ (zI (j + (1 : Int)) ∧ zRuns 156 zX0 (fun (v : Int) (u : zS) => ((¬ (0 ≤ k ∧ k ≤ 7)) ∧ σ = u ∧ -1000001 = v) ∨ ((0 ≤ k ∧ k ≤ 7) ∧ σ = u ∧ (if k = 0 then zps (σ 37) 0 8 else if k = 1 then σ 9 13 else if k = 2 then σ 9 9 else if k = 3 then zps (σ 47) 0 48984 else if k = 4 then zps (σ 47) 48984 676 else if k = 5 then σ 9 22 else if k = 6 then σ 9 25 else σ 9 20) = v)) 19 [some (.inr (.inr (9, 0))), some (.inl k), some (.inl (m + (1 : Int))), some (.inl (j + (1 : Int)))] [] σ)))))))))
    have zs := zps_s (g := σ 37) j0.1
    have zr := zps_r (g := σ 37) (a := 0) (n := (j - 0).toNat)
    refine ⟨?_, ?_⟩
    · intro h1
      refine lp_c54 hk 48986 0 m (by omega) (by omega) ?_
      by_cases q : k = 3
      · refine Or.inl ⟨q, ?_⟩
        show m = 0
        omega
      · refine Or.inr ⟨q, fun q3 => ?_, by omega, by omega, by omega⟩
        rcases hm with ⟨_, e⟩ | ⟨e, _⟩
        · rw [e, show (j - 0).toNat = 8 by omega]
        · exact absurd q3 e
    · intro h2
      refine ⟨?_, ?_⟩
      · intro h3
        refine lp_c54 hk 48986 0 m (by omega) (by omega) ?_
        by_cases q : k = 3
        · refine Or.inl ⟨q, ?_⟩
          show m = 0
          omega
        · refine Or.inr ⟨q, fun q3 => ?_, by omega, by omega, by omega⟩
          rcases hm with ⟨_, e⟩ | ⟨e, _⟩
          · rw [e, show (j - 0).toNat = 8 by omega]
          · exact absurd q3 e
      · intro h4
        refine ⟨by (first | exact ⟨by omega, by omega⟩ | (exfalso; omega)), ?_⟩
        refine ⟨?_, ?_⟩
        · intro h5
          refine ⟨by (first | exact ⟨by omega, by omega⟩ | (exfalso; omega)), ?_⟩
          refine ⟨by (first | exact ⟨by omega, by omega⟩ | (exfalso; omega)), ?_⟩
          refine ih (j + 1) _ (by omega) ⟨by omega, by omega⟩ (Or.inl ⟨by omega, ?_⟩)
          rw [zs, if_neg (by omega)]
          omega
        · intro h6
          refine ⟨by (first | exact ⟨by omega, by omega⟩ | (exfalso; omega)), ?_⟩
          refine ⟨by (first | exact ⟨by omega, by omega⟩ | (exfalso; omega)), ?_⟩
          refine ih (j + 1) _ (by omega) ⟨by omega, by omega⟩ (Or.inl ⟨by omega, ?_⟩)
          rw [zs, if_pos (by omega)]
          omega
set_option maxRecDepth 100000 in
set_option maxHeartbeats 4000000 in
theorem am_X9_count {σ : zS} {k : Int} : zAM 156 [.inr (.inr (9, 0)), .inl k] σ (fun (v : Int) (u : zS) => ((¬ (0 ≤ k ∧ k ≤ 7)) ∧ σ = u ∧ -1000001 = v) ∨ ((0 ≤ k ∧ k ≤ 7) ∧ σ = u ∧ (if k = 0 then zps (σ 37) 0 8 else if k = 1 then σ 9 13 else if k = 2 then σ 9 9 else if k = 3 then zps (σ 47) 0 48984 else if k = 4 then zps (σ 47) 48984 676 else if k = 5 then σ 9 22 else if k = 6 then σ 9 25 else σ 9 20) = v)) := by
  refine zam (by decide) (Nat.le_of_ble_eq_true rfl) ?_
  refine zwalk zmk_156 [(19, [true, true, true, true]), (54, [true, true, true, true]), (91, [true, true, true, true])] 3 ?_
  show (∃ Rc : Int → zS → Prop, zAM 103 [.inr (.inl k), .inr (.inl (0 : Int)), .inr (.inl (7 : Int))] σ Rc ∧ ∀ (v1 : Int) (u1 : zS), zI v1 → Rc v1 u1 → ((¬ v1 = 0 → zRuns 156 zX0 (fun (v : Int) (u : zS) => ((¬ (0 ≤ k ∧ k ≤ 7)) ∧ σ = u ∧ -1000001 = v) ∨ ((0 ≤ k ∧ k ≤ 7) ∧ σ = u ∧ (if k = 0 then zps (σ 37) 0 8 else if k = 1 then σ 9 13 else if k = 2 then σ 9 9 else if k = 3 then zps (σ 47) 0 48984 else if k = 4 then zps (σ 47) 48984 676 else if k = 5 then σ 9 22 else if k = 6 then σ 9 25 else σ 9 20) = v)) 19 [some (.inr (.inr (9, 0))), some (.inl k), some (.inl (0 : Int)), some (.inl (0 : Int))] [] u1) ∧ (v1 = 0 → (((¬ (0 ≤ k ∧ k ≤ 7)) ∧ σ = u1 ∧ -1000001 = (-1000001 : Int)) ∨ ((0 ≤ k ∧ k ≤ 7) ∧ σ = u1 ∧ (if k = 0 then zps (σ 37) 0 8 else if k = 1 then σ 9 13 else if k = 2 then σ 9 9 else if k = 3 then zps (σ 47) 0 48984 else if k = 4 then zps (σ 47) 48984 676 else if k = 5 then σ 9 22 else if k = 6 then σ 9 25 else σ 9 20) = (-1000001 : Int))))))
  refine ⟨_, am_X9_in, ?_⟩
  intro v1 u1 hv1
  rintro ⟨rfl, (⟨rfl, cv1⟩ | ⟨rfl, cv1⟩)⟩
  · refine ⟨?_, ?_⟩
    · intro _
      refine lp_c19 cv1 10 0 0 (by omega) (by omega) ?_
      by_cases q : k = 0
      · exact Or.inl ⟨q, rfl⟩
      · exact Or.inr ⟨q, rfl⟩
    · exact fun h => absurd h (by decide)
  · refine ⟨?_, ?_⟩
    · exact fun h => absurd h (by decide)
    · intro _
      exact Or.inl ⟨cv1, rfl, rfl⟩
