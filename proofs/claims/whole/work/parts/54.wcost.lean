/-! the class's cost of a word -/
def zSA (f : Int → Int → Int → Int) (w : Nat → Int) (m : Nat) (p : Int) (t : zS) (k a : Int) : Prop := ∀ x y : Int, (k < x ∧ x ≤ m ∨ x = k ∧ a < y) → 0 ≤ y → y ≤ p → t 33 (x * 15 + y) = zsp f w m p 1000000 (m - x).toNat y
def zSB (t : zS) (k a : Int) : Prop := ∀ x y : Int, 0 ≤ x ∧ (x < k ∨ x = k ∧ y ≤ a) → 0 ≤ y → y ≤ 14 → t 33 (x * 15 + y) = 1000000
/-- what one row gives to the place (k, a) -/
def zrg (f : Int → Int → Int → Int) (w : Nat → Int) (m : Nat) (p N k a : Int) : Int → Int := fun r => zcn1 f a r (w k.toNat) N (zsp f w m p N (m - (k + 1)).toNat (a + r))
theorem zsp_k {f : Int → Int → Int → Int} {w : Nat → Int} {m : Nat} {p N k a : Int} (h0 : 0 ≤ k) (h1 : k < m) : zsp f w m p N (m - k).toNat a = zm3 (zrg f w m p N k a) N p a 3 := by
  obtain ⟨d, e⟩ : ∃ d : Nat, ((m : Int) - k).toNat = d + 1 := ⟨((m : Int) - k).toNat - 1, by omega⟩
  have e2 : m - (d + 1) = k.toNat := by omega
  have e3 : ((m : Int) - (k + 1)).toNat = d := by omega
  rw [e]
  unfold zrg
  rw [e3]
  show zm3 (fun k => zcn1 f a k (w (m - (d + 1))) N (zsp f w m p N d (a + k))) N p a 3 = _
  rw [e2]
set_option maxRecDepth 100000 in
set_option maxHeartbeats 4000000 in
theorem lp_sc66 {k : Int} {a : Int} {w : Nat → Int} {m : Nat} {p : Int} {f : Int → Int → Int → Int} {σ : zS} {R : Int → zS → Prop} (hw : zlet w m) (hm : m ≤ 12) (hp : 0 ≤ p ∧ p ≤ 14) (h51 : σ 5 1 = p) (hf : ∀ a k l : Int, 0 ≤ a → 1 ≤ k → k ≤ 3 → a + k ≤ p → 0 ≤ l → l < 26 → σ 29 (zfp a k l) = f a k l ∧ -1 ≤ f a k l ∧ f a k l ≤ 100) (hk : 0 ≤ k ∧ k < m) (ha : 0 ≤ a ∧ a < p) (K : ∀ t : zS, zfr [33] σ t → zSA f w m p t k (a - 1) → zSB t k (a - 1) → zRuns 44 zX0 R 58 [some (.inr (.inr (7, 0))), some (.inr (.inr (5, 0))), some (.inr (.inl (zlc w m))), none, none, some (.inl k), some (.inl (w k.toNat)), some (.inl (a + -1)), none, none] [] t) : ∀ (n : Nat) (r : Int) (t : zS), 4 - r < (n : Int) → (1 ≤ r ∧ r ≤ 4) → (zfr [33] σ t) → (zSA f w m p t k a) → (zSB t k (a - 1)) → (t 33 (k * 15 + a) = zm3 (zrg f w m p 1000000 k a) 1000000 p a (r - 1).toNat) → zRuns 44 zX0 (fun (v : Int) (u : zS) => R v u) 66 [some (.inr (.inr (7, 0))), some (.inr (.inr (5, 0))), some (.inr (.inl (zlc w m))), none, none, some (.inl k), some (.inl (w k.toNat)), some (.inl a), some (.inl r), none] [] t := by
  intro n
  induction n with
  | zero =>
    intro r t hn r0 hfr hA hB hx
    exfalso
    omega
  | succ n ih =>
    intro r t hn r0 hfr hA hB hx
    refine zwalk zmk_44 [(37, [true, true, true, false, false, true, false, false, false, false]), (58, [true, true, true, false, false, true, true, true, false, false]), (66, [true, true, true, false, false, true, true, true, true, false])] 3 ?_
    show (((3 : Int) < r → (zI (a + (-1 : Int)) ∧ zRuns 44 zX0 (fun (v : Int) (u : zS) => R v u) 58 [some (.inr (.inr (7, 0))), some (.inr (.inr (5, 0))), some (.inr (.inl (zlc w m))), none, none, some (.inl k), some (.inl (w k.toNat)), some (.inl (a + (-1 : Int))), none, none] [] t)) ∧ (r ≤ (3 : Int) → (zI (a + r) ∧ (((t 5 (1 : Int)) < (a + r) → (zI (a + (-1 : Int)) ∧ zRuns 44 zX0 (fun (v : Int) (u : zS) => R v u) 58 [some (.inr (.inr (7, 0))), some (.inr (.inr (5, 0))), some (.inr (.inl (zlc w m))), none, none, some (.inl k), some (.inl (w k.toNat)), some (.inl (a + (-1 : Int))), none, none] [] t)) ∧ ((a + r) ≤ (t 5 (1 : Int)) → (∃ Rc : Int → zS → Prop, zAM 45 [.inr (.inr (7, 0)), .inr (.inr (5, 0)), .inl k, .inl (w k.toNat), .inl a, .inl r] t Rc ∧ ∀ (v1 : Int) (u1 : zS), zI v1 → Rc v1 u1 → (zI (k * (15 : Int)) ∧ (zI ((k * (15 : Int)) + a) ∧ (zI (k * (15 : Int)) ∧ (zI ((k * (15 : Int)) + a) ∧ ((0 ≤ ((k * (15 : Int)) + a) ∧ ((k * (15 : Int)) + a) < (195 : Int)) ∧ ((0 ≤ ((k * (15 : Int)) + a) ∧ ((k * (15 : Int)) + a) < (195 : Int)) ∧ (zI (r + (1 : Int)) ∧ zRuns 44 zX0 (fun (v : Int) (u : zS) => R v u) 66 [some (.inr (.inr (7, 0))), some (.inr (.inr (5, 0))), some (.inr (.inl (zlc w m))), none, none, some (.inl k), some (.inl (w k.toNat)), some (.inl a), some (.inl (r + (1 : Int))), none] [] (zup u1 33 ((k * (15 : Int)) + a) (min (u1 33 ((k * (15 : Int)) + a)) v1)))))))))))))))
    have e5 : t 5 = σ 5 := hfr 5 (by decide)
    have e29 : t 29 = σ 29 := hfr 29 (by decide)
    have e51 : t 5 1 = p := by rw [e5]; exact h51
    have hwl := hw k.toNat (by omega)
    have hrr : r ≤ 3 → a + r ≤ p → (t 29 ((a * 3 + r - 1) * 26 + w k.toNat) = f a r (w k.toNat) ∧ -1 ≤ f a r (w k.toNat) ∧ f a r (w k.toNat) ≤ 100) ∧ t 33 ((k + 1) * 15 + a + r) = zsp f w m p 1000000 (m - (k + 1)).toNat (a + r) ∧ 0 ≤ t 33 ((k + 1) * 15 + a + r) ∧ t 33 ((k + 1) * 15 + a + r) ≤ 1000000 := fun q1 q2 => by
      have x1 := hf a r (w k.toNat) ha.1 r0.1 q1 q2 hwl.1 hwl.2
      have x2 := hA (k + 1) (a + r) (by omega) (by omega) (by omega)
      rw [show (k + 1) * 15 + (a + r) = (k + 1) * 15 + a + r by omega] at x2
      have x3 := zsp_b (f := f) (w := w) (m := m) (p := p) (N := 1000000) (M := 1000000) (fun a k l a0 k0 k1 ak l0 l1 => (hf a k l a0 k0 k1 ak l0 l1).2.2) hw (by decide) (by decide) hm (m - (k + 1)).toNat (a + r) (by omega) (by omega)
      rw [← x2] at x3
      refine ⟨⟨by rw [e29]; exact x1.1, x1.2⟩, x2, ?_, ?_⟩
      · rcases x3 with x3 | x3 <;> omega
      · rcases x3 with x3 | x3 <;> omega
    refine ⟨?_, ?_⟩
    · intro h1
      refine ⟨by (first | exact ⟨by omega, by omega⟩ | (exfalso; omega)), ?_⟩
      refine K t hfr (fun x y q y0 y1 => ?_) (fun x y q y0 y1 => hB x y (by omega) y0 y1)
      by_cases g : x = k ∧ y = a
      · rw [g.1, g.2, hx, zsp_k (by omega) (by omega)]
        by_cases g4 : r = 4
        · rw [g4]; rfl
        · exact (zm3_out (j := 3) (i := (r - 1).toNat) (by omega) (by omega)).symm
      · exact hA x y (by omega) y0 y1
    · intro h2
      refine ⟨by (first | exact ⟨by omega, by omega⟩ | (exfalso; omega)), ?_⟩
      refine ⟨?_, ?_⟩
      · intro h3
        refine ⟨by (first | exact ⟨by omega, by omega⟩ | (exfalso; omega)), ?_⟩
        refine K t hfr (fun x y q y0 y1 => ?_) (fun x y q y0 y1 => hB x y (by omega) y0 y1)
        by_cases g : x = k ∧ y = a
        · rw [g.1, g.2, hx, zsp_k (by omega) (by omega)]
          by_cases g4 : r = 4
          · rw [g4]; rfl
          · exact (zm3_out (j := 3) (i := (r - 1).toNat) (by omega) (by omega)).symm
        · exact hA x y (by omega) y0 y1
      · intro h4
        refine ⟨_, am_X6_costBy (by omega) (by (have q9 := hrr (by omega) (by omega); rw [q9.1.1]; exact q9.1.2)) ((hrr (by omega) (by omega)).2.2), ?_⟩
        intro v1 u1 hv1
        rintro ⟨rfl, ev1⟩
        obtain ⟨hv1a, hv1b⟩ := hv1
        refine ⟨by (first | exact ⟨by omega, by omega⟩ | (exfalso; omega)), ?_⟩
        refine ⟨by (first | exact ⟨by omega, by omega⟩ | (exfalso; omega)), ?_⟩
        refine ⟨by (first | exact ⟨by omega, by omega⟩ | (exfalso; omega)), ?_⟩
        refine ⟨by (first | exact ⟨by omega, by omega⟩ | (exfalso; omega)), ?_⟩
        refine ⟨by (first | exact ⟨by omega, by omega⟩ | (exfalso; omega)), ?_⟩
        refine ⟨by (first | exact ⟨by omega, by omega⟩ | (exfalso; omega)), ?_⟩
        refine ⟨by (first | exact ⟨by omega, by omega⟩ | (exfalso; omega)), ?_⟩
        have q9 := hrr (by omega) (by omega)
        rw [q9.1.1, q9.2.1] at ev1
        have eg : zrg f w m p 1000000 k a r = v1 := by
          rw [← ev1]
          unfold zrg zcn1
          by_cases c : f a r (w k.toNat) < 0 ∨ zsp f w m p 1000000 (m - (k + 1)).toNat (a + r) = 1000000
          · rw [if_pos c, if_pos (by omega)]
          · rw [if_neg c, if_neg (by omega)]
        refine ih (r + 1) _ (by omega) ⟨by omega, by omega⟩ (hfr.up (c := 33) (by decide)) (fun x y q y0 y1 => ?_) (fun x y q y0 y1 => ?_) ?_
        · rw [zup_at, if_neg (by omega)]; exact hA x y q y0 y1
        · rw [zup_at, if_neg (by omega)]; exact hB x y q y0 y1
        · rw [zup_at, if_pos rfl, hx, show r + 1 - 1 = r by omega, zm3_s (k := r) (by omega) (by omega), eg]
set_option maxRecDepth 100000 in
set_option maxHeartbeats 4000000 in
theorem lp_sc58 {k : Int} {w : Nat → Int} {m : Nat} {p : Int} {f : Int → Int → Int → Int} {σ : zS} {R : Int → zS → Prop} (hw : zlet w m) (hm : m ≤ 12) (hp : 0 ≤ p ∧ p ≤ 14) (h51 : σ 5 1 = p) (hf : ∀ a k l : Int, 0 ≤ a → 1 ≤ k → k ≤ 3 → a + k ≤ p → 0 ≤ l → l < 26 → σ 29 (zfp a k l) = f a k l ∧ -1 ≤ f a k l ∧ f a k l ≤ 100) (hk : 0 ≤ k ∧ k < m) (K : ∀ t : zS, zfr [33] σ t → zSA f w m p t (k - 1) 14 → zSB t (k - 1) 14 → zRuns 44 zX0 R 37 [some (.inr (.inr (7, 0))), some (.inr (.inr (5, 0))), some (.inr (.inl (zlc w m))), none, none, some (.inl (k + -1)), none, none, none, none] [] t) : ∀ (n : Nat) (a : Int) (t : zS), a + 1 < (n : Int) → (-1 ≤ a ∧ a < p) → (zfr [33] σ t) → (zSA f w m p t k a) → (zSB t k a) → zRuns 44 zX0 (fun (v : Int) (u : zS) => R v u) 58 [some (.inr (.inr (7, 0))), some (.inr (.inr (5, 0))), some (.inr (.inl (zlc w m))), none, none, some (.inl k), some (.inl (w k.toNat)), some (.inl a), none, none] [] t := by
  intro n
  induction n with
  | zero =>
    intro a t hn a0 hfr hA hB
    exfalso
    omega
  | succ n ih =>
    intro a t hn a0 hfr hA hB
    refine zwalk zmk_44 [(37, [true, true, true, false, false, true, false, false, false, false]), (58, [true, true, true, false, false, true, true, true, false, false]), (66, [true, true, true, false, false, true, true, true, true, false])] 3 ?_
    show ((a < 0 → (zI (k + (-1 : Int)) ∧ zRuns 44 zX0 (fun (v : Int) (u : zS) => R v u) 37 [some (.inr (.inr (7, 0))), some (.inr (.inr (5, 0))), some (.inr (.inl (zlc w m))), none, none, some (.inl (k + (-1 : Int))), none, none, none, none] [] t)) ∧ (0 ≤ a → zRuns 44 zX0 (fun (v : Int) (u : zS) => R v u) 66 [some (.inr (.inr (7, 0))), some (.inr (.inr (5, 0))), some (.inr (.inl (zlc w m))), none, none, some (.inl k), some (.inl (w k.toNat)), some (.inl a), some (.inl (1 : Int)), none] [] t))
    have e5 : t 5 = σ 5 := hfr 5 (by decide)
    have e29 : t 29 = σ 29 := hfr 29 (by decide)
    have e51 : t 5 1 = p := by rw [e5]; exact h51
    refine ⟨?_, ?_⟩
    · intro h1
      refine ⟨by (first | exact ⟨by omega, by omega⟩ | (exfalso; omega)), ?_⟩
      obtain rfl : a = -1 := by omega
      exact K t hfr (fun x y q y0 y1 => hA x y (by omega) y0 y1) (fun x y q y0 y1 => hB x y (by omega) y0 y1)
    · intro h2
      refine lp_sc66 hw hm hp h51 hf hk ⟨by omega, by omega⟩ (fun t9 g1 g2 g3 => ih (a + -1) t9 (by omega) ⟨by omega, by omega⟩ g1 g2 g3) 4 1 t (by omega) ⟨by omega, by omega⟩ hfr hA (fun x y q y0 y1 => hB x y (by omega) y0 y1) ?_
      rw [hB k a (by omega) (by omega) (by omega)]
      rfl
set_option maxRecDepth 100000 in
set_option maxHeartbeats 4000000 in
theorem lp_sc37 {w : Nat → Int} {m : Nat} {p : Int} {f : Int → Int → Int → Int} {σ : zS} (hw : zlet w m) (hm : m ≤ 12) (hp : 0 ≤ p ∧ p ≤ 14) (h51 : σ 5 1 = p) (hf : ∀ a k l : Int, 0 ≤ a → 1 ≤ k → k ≤ 3 → a + k ≤ p → 0 ≤ l → l < 26 → σ 29 (zfp a k l) = f a k l ∧ -1 ≤ f a k l ∧ f a k l ≤ 100) : ∀ (n : Nat) (k : Int) (t : zS), k + 1 < (n : Int) → (-1 ≤ k ∧ k < m) → (zfr [33] σ t) → (zSA f w m p t k 14) → (zSB t k 14) → zRuns 44 zX0 (fun (v : Int) (u : zS) => zfr [33] σ u ∧ (∀ x y : Int, 0 ≤ x → x ≤ m → 0 ≤ y → y ≤ p → u 33 (x * 15 + y) = zsp f w m p 1000000 (m - x).toNat y) ∧ v = (if zsp f w m p 1000000 m 0 < 1000000 then zsp f w m p 1000000 m 0 else -1)) 37 [some (.inr (.inr (7, 0))), some (.inr (.inr (5, 0))), some (.inr (.inl (zlc w m))), none, none, some (.inl k), none, none, none, none] [] t := by
  intro n
  induction n with
  | zero =>
    intro k t hn k0 hfr hA hB
    exfalso
    omega
  | succ n ih =>
    intro k t hn k0 hfr hA hB
    refine zwalk zmk_44 [(37, [true, true, true, false, false, true, false, false, false, false]), (58, [true, true, true, false, false, true, true, true, false, false]), (66, [true, true, true, false, false, true, true, true, true, false])] 4 ?_
    show ((k < 0 → ((0 ≤ (0 : Int) ∧ (0 : Int) < (195 : Int)) ∧ (((1000000 : Int) ≤ (t 33 (0 : Int)) → (zfr [33] σ t ∧ (∀ x y : Int, 0 ≤ x → x ≤ m → 0 ≤ y → y ≤ p → t 33 (x * 15 + y) = zsp f w m p 1000000 (m - x).toNat y) ∧ (-1 : Int) = (if zsp f w m p 1000000 m 0 < 1000000 then zsp f w m p 1000000 m 0 else -1))) ∧ ((t 33 (0 : Int)) < (1000000 : Int) → ((0 ≤ (0 : Int) ∧ (0 : Int) < (195 : Int)) ∧ (zfr [33] σ t ∧ (∀ x y : Int, 0 ≤ x → x ≤ m → 0 ≤ y → y ≤ p → t 33 (x * 15 + y) = zsp f w m p 1000000 (m - x).toNat y) ∧ (t 33 (0 : Int)) = (if zsp f w m p 1000000 m 0 < 1000000 then zsp f w m p 1000000 m 0 else -1))))))) ∧ (0 ≤ k → (∃ Rc : Int → zS → Prop, zAM 87 [.inr (.inl (zlc w m)), .inl k] t Rc ∧ ∀ (v1 : Int) (u1 : zS), zI v1 → Rc v1 u1 → (zI ((u1 5 (1 : Int)) - (1 : Int)) ∧ zRuns 44 zX0 (fun (v : Int) (u : zS) => zfr [33] σ u ∧ (∀ x y : Int, 0 ≤ x → x ≤ m → 0 ≤ y → y ≤ p → u 33 (x * 15 + y) = zsp f w m p 1000000 (m - x).toNat y) ∧ v = (if zsp f w m p 1000000 m 0 < 1000000 then zsp f w m p 1000000 m 0 else -1)) 58 [some (.inr (.inr (7, 0))), some (.inr (.inr (5, 0))), some (.inr (.inl (zlc w m))), none, none, some (.inl k), some (.inl v1), some (.inl ((u1 5 (1 : Int)) - (1 : Int))), none, none] [] u1))))
    have e5 : t 5 = σ 5 := hfr 5 (by decide)
    have e29 : t 29 = σ 29 := hfr 29 (by decide)
    have e51 : t 5 1 = p := by rw [e5]; exact h51
    have hz9 := zlc_lt hw hm
    refine ⟨?_, ?_⟩
    · intro h1
      refine ⟨by (first | exact ⟨by omega, by omega⟩ | (exfalso; omega)), ?_⟩
      refine ⟨?_, ?_⟩
      · intro h2
        obtain rfl : k = -1 := by omega
        have h00 := hA 0 0 (by omega) (by omega) (by omega)
        rw [show ((m : Int) - 0).toNat = m by omega, show (0 : Int) * 15 + 0 = 0 by omega] at h00
        refine ⟨hfr, fun x y x0 x1 y0 y1 => hA x y (by omega) y0 y1, ?_⟩
        rw [← h00]
        rw [if_neg (by show ¬ _ < (1000000 : Int); omega)]
      · intro h3
        refine ⟨by (first | exact ⟨by omega, by omega⟩ | (exfalso; omega)), ?_⟩
        obtain rfl : k = -1 := by omega
        have h00 := hA 0 0 (by omega) (by omega) (by omega)
        rw [show ((m : Int) - 0).toNat = m by omega, show (0 : Int) * 15 + 0 = 0 by omega] at h00
        refine ⟨hfr, fun x y x0 x1 y0 y1 => hA x y (by omega) y0 y1, ?_⟩
        rw [← h00]
        rw [if_pos (by show _ < (1000000 : Int); omega)]
    · intro h4
      refine ⟨_, am_X8_letterAt (hz9) (by omega), ?_⟩
      intro v1 u1 hv1
      rintro ⟨rfl, ev1⟩
      obtain ⟨hv1a, hv1b⟩ := hv1
      have el : v1 = w k.toNat := by rw [← ev1, zdg_lc hw hm (by omega) (by omega), if_pos (by omega)]; omega
      subst el
      refine ⟨by (first | exact ⟨by omega, by omega⟩ | (exfalso; omega)), ?_⟩
      refine lp_sc58 hw hm hp h51 hf ⟨by omega, by omega⟩ (fun t9 g1 g2 g3 => ih (k + -1) t9 (by omega) ⟨by omega, by omega⟩ g1 g2 g3) (p.toNat + 1) _ t (by omega) ⟨by omega, by omega⟩ hfr (fun x y q y0 y1 => ?_) (fun x y q y0 y1 => hB x y (by omega) y0 y1)
      by_cases g : x = k
      · rw [g, hB k y (by omega) y0 (by omega), zsp_k (by omega) (by omega), zm3_out (j := 3) (i := 0) (by omega) (by omega)]
        rfl
      · exact hA x y (by omega) y0 y1
set_option maxRecDepth 100000 in
set_option maxHeartbeats 4000000 in
theorem am_X6_cost {σ : zS} {w : Nat → Int} {m : Nat} {p : Int} {f : Int → Int → Int → Int} (hw : zlet w m) (hm : m ≤ 12) (hp : 0 ≤ p ∧ p ≤ 14) (h51 : σ 5 1 = p) (hf : ∀ a k l : Int, 0 ≤ a → 1 ≤ k → k ≤ 3 → a + k ≤ p → 0 ≤ l → l < 26 → σ 29 (zfp a k l) = f a k l ∧ -1 ≤ f a k l ∧ f a k l ≤ 100) : zAM 44 [.inr (.inr (7, 0)), .inr (.inr (5, 0)), .inr (.inl (zlc w m))] σ (fun (v : Int) (u : zS) => zfr [33] σ u ∧ (∀ x y : Int, 0 ≤ x → x ≤ m → 0 ≤ y → y ≤ p → u 33 (x * 15 + y) = zsp f w m p 1000000 (m - x).toNat y) ∧ v = (if zsp f w m p 1000000 m 0 < 1000000 then zsp f w m p 1000000 m 0 else -1)) := by
  refine zam (by decide) (Nat.le_of_ble_eq_true rfl) ?_
  refine zwalk zmk_44 [(37, [true, true, true, false, false, true, false, false, false, false]), (58, [true, true, true, false, false, true, true, true, false, false]), (66, [true, true, true, false, false, true, true, true, true, false])] 2 ?_
  show (∃ Rc : Int → zS → Prop, zAM 88 [.inr (.inl (zlc w m))] σ Rc ∧ ∀ (v1 : Int) (u1 : zS), zI v1 → Rc v1 u1 → (∃ Rc : Int → zS → Prop, zAM 158 [.inr (.inr (33, 0)), .inl (1000000 : Int)] u1 Rc ∧ ∀ (u2 : zS), Rc 0 u2 → (zI (v1 * (15 : Int)) ∧ (zI ((v1 * (15 : Int)) + (u2 5 (1 : Int))) ∧ ((0 ≤ ((v1 * (15 : Int)) + (u2 5 (1 : Int))) ∧ ((v1 * (15 : Int)) + (u2 5 (1 : Int))) < (195 : Int)) ∧ (zI (v1 - (1 : Int)) ∧ zRuns 44 zX0 (fun (v : Int) (u : zS) => zfr [33] σ u ∧ (∀ x y : Int, 0 ≤ x → x ≤ m → 0 ≤ y → y ≤ p → u 33 (x * 15 + y) = zsp f w m p 1000000 (m - x).toNat y) ∧ v = (if zsp f w m p 1000000 m 0 < 1000000 then zsp f w m p 1000000 m 0 else -1)) 37 [some (.inr (.inr (7, 0))), some (.inr (.inr (5, 0))), some (.inr (.inl (zlc w m))), none, none, some (.inl (v1 - (1 : Int))), none, none, none, none] [] (zup u2 33 ((v1 * (15 : Int)) + (u2 5 (1 : Int))) (0 : Int))))))))
  refine ⟨_, am_X8_lettersOf (hw) (hm), ?_⟩
  intro v1 u1 hv1
  rintro ⟨rfl, ev1⟩
  obtain ⟨hv1a, hv1b⟩ := hv1
  subst ev1
  refine ⟨_, am_fill_least, ?_⟩
  intro u2
  intro kv2
  obtain rfl := kv2
  have e59 : (zfill σ 33 0 195 1000000) 5 1 = σ 5 1 := if_neg (fun z => absurd z.1 (by decide))
  refine ⟨by (first | exact ⟨by omega, by omega⟩ | (exfalso; omega)), ?_⟩
  refine ⟨by (first | exact ⟨by omega, by omega⟩ | (exfalso; omega)), ?_⟩
  refine ⟨by (first | exact ⟨by omega, by omega⟩ | (exfalso; omega)), ?_⟩
  refine ⟨by (first | exact ⟨by omega, by omega⟩ | (exfalso; omega)), ?_⟩
  refine (lp_sc37 (σ := σ) hw hm hp h51 hf (m + 1) _ _ (by omega) ⟨by omega, by omega⟩ (fun k hk => ?_) (fun x y q y0 y1 => ?_) (fun x y q y0 y1 => ?_))
  · rw [zup_ne (fun z => hk (by rw [z]; decide))]
    funext x
    exact if_neg (fun z => hk (by rw [z.1]; decide))
  · have ex : x = m := by omega
    rw [ex, show ((m : Int) - (m : Int)).toNat = 0 by omega]
    show zup _ 33 _ 0 33 _ = (if y = p then 0 else 1000000)
    by_cases g : y = p
    · rw [if_pos g, zup_at, if_pos]
      rw [g, ← h51]
      rfl
    · rw [if_neg g, zup_at, if_neg]
      · exact if_pos ⟨rfl, by omega, by omega⟩
      · intro z
        have z2 : (m : Int) * 15 + y = (m : Int) * 15 + σ 5 1 := z
        omega
  · rw [zup_at, if_neg]
    · exact if_pos ⟨rfl, by omega, by omega⟩
    · intro z
      have z2 : x * 15 + y = (m : Int) * 15 + σ 5 1 := z
      omega
