/-! the rows of the word that is taught -/
def zrw1 (g : Int → Int) (v p a : Int) : Int := if a + 3 ≤ p ∧ g 3 = v then 3 else if a + 2 ≤ p ∧ g 2 = v then 2 else 1
def zat (f : Int → Int → Int → Int) (w : Nat → Int) (m : Nat) (p N : Int) : Nat → Int
  | 0 => 0
  | k + 1 => zat f w m p N k + zrw1 (zrg f w m p N (k : Int) (zat f w m p N k)) (zsp f w m p N (m - k) (zat f w m p N k)) p (zat f w m p N k)
def zrwk (f : Int → Int → Int → Int) (w : Nat → Int) (m : Nat) (p N : Int) (k : Nat) : Int := zrw1 (zrg f w m p N (k : Int) (zat f w m p N k)) (zsp f w m p N (m - k) (zat f w m p N k)) p (zat f w m p N k)
theorem zat_s {f : Int → Int → Int → Int} {w : Nat → Int} {m k : Nat} {p N : Int} : zat f w m p N (k + 1) = zat f w m p N k + zrwk f w m p N k := rfl
theorem zm3_ex {g : Int → Int} {N p a : Int} : ∀ {j : Nat}, zm3 g N p a j < N → ∃ r : Nat, 1 ≤ r ∧ r ≤ j ∧ a + r ≤ p ∧ g r = zm3 g N p a j
  | 0, h => absurd h (Int.lt_irrefl _)
  | j + 1, h => by
    rw [zm3_succ] at h ⊢
    by_cases q : a + (j + 1 : Nat) ≤ p
    · rw [if_pos q] at h ⊢
      by_cases c : zm3 g N p a j ≤ g (j + 1 : Nat)
      · have e : min (zm3 g N p a j) (g (j + 1 : Nat)) = zm3 g N p a j := by omega
        rw [e] at h ⊢
        obtain ⟨r, a1, a2, a3, a4⟩ := zm3_ex h
        exact ⟨r, a1, by omega, a3, a4⟩
      · exact ⟨j + 1, by omega, by omega, q, by omega⟩
    · rw [if_neg q] at h ⊢
      obtain ⟨r, a1, a2, a3, a4⟩ := zm3_ex h
      exact ⟨r, a1, by omega, a3, a4⟩
theorem zrw1_ok {g : Int → Int} {N p a : Int} (h : zm3 g N p a 3 < N) : (1 ≤ zrw1 g (zm3 g N p a 3) p a ∧ zrw1 g (zm3 g N p a 3) p a ≤ 3) ∧ a + zrw1 g (zm3 g N p a 3) p a ≤ p ∧ g (zrw1 g (zm3 g N p a 3) p a) = zm3 g N p a 3 ∧ ∀ r : Int, zrw1 g (zm3 g N p a 3) p a < r → r ≤ 3 → a + r ≤ p → ¬ g r = zm3 g N p a 3 := by
  obtain ⟨r, a1, a2, a3, a4⟩ := zm3_ex h
  unfold zrw1
  by_cases c3 : a + 3 ≤ p ∧ g 3 = zm3 g N p a 3
  · rw [if_pos c3]
    exact ⟨by decide, c3.1, c3.2, fun r b1 b2 _ => by omega⟩
  · rw [if_neg c3]
    by_cases c2 : a + 2 ≤ p ∧ g 2 = zm3 g N p a 3
    · rw [if_pos c2]
      refine ⟨by decide, c2.1, c2.2, fun r b1 b2 b3 z => ?_⟩
      have e : r = 3 := by omega
      rw [e] at b3 z
      exact c3 ⟨b3, z⟩
    · rw [if_neg c2]
      have e1 : r = 1 := by
        rcases (show r = 1 ∨ r = 2 ∨ r = 3 by omega) with e | e | e
        · exact e
        · subst e; exact absurd ⟨a3, a4⟩ c2
        · subst e; exact absurd ⟨a3, a4⟩ c3
      subst e1
      refine ⟨by decide, a3, a4, fun r b1 b2 b3 z => ?_⟩
      rcases (show r = 2 ∨ r = 3 by omega) with e | e
      · rw [e] at b3 z; exact c2 ⟨b3, z⟩
      · rw [e] at b3 z; exact c3 ⟨b3, z⟩
/-- the way of the rows: each place is real, each row fits -/
theorem zat_ok {f : Int → Int → Int → Int} {w : Nat → Int} {m : Nat} {p N : Int} (hp : 0 ≤ p) (h : zsp f w m p N m 0 < N) : ∀ {k : Nat}, k ≤ m → (0 ≤ zat f w m p N k ∧ zat f w m p N k ≤ p) ∧ zsp f w m p N (m - k) (zat f w m p N k) < N ∧ (k < m → (1 ≤ zrwk f w m p N k ∧ zrwk f w m p N k ≤ 3) ∧ zat f w m p N k + zrwk f w m p N k ≤ p ∧ zrg f w m p N (k : Int) (zat f w m p N k) (zrwk f w m p N k) = zsp f w m p N (m - k) (zat f w m p N k) ∧ 0 ≤ f (zat f w m p N k) (zrwk f w m p N k) (w k) ∧ ∀ r : Int, zrwk f w m p N k < r → r ≤ 3 → zat f w m p N k + r ≤ p → ¬ zrg f w m p N (k : Int) (zat f w m p N k) r = zsp f w m p N (m - k) (zat f w m p N k)) := by
  have step : ∀ k : Nat, k < m → 0 ≤ zat f w m p N k → zsp f w m p N (m - k) (zat f w m p N k) < N → (1 ≤ zrwk f w m p N k ∧ zrwk f w m p N k ≤ 3) ∧ zat f w m p N k + zrwk f w m p N k ≤ p ∧ zrg f w m p N (k : Int) (zat f w m p N k) (zrwk f w m p N k) = zsp f w m p N (m - k) (zat f w m p N k) ∧ 0 ≤ f (zat f w m p N k) (zrwk f w m p N k) (w k) ∧ ∀ r : Int, zrwk f w m p N k < r → r ≤ 3 → zat f w m p N k + r ≤ p → ¬ zrg f w m p N (k : Int) (zat f w m p N k) r = zsp f w m p N (m - k) (zat f w m p N k) := fun k hk h0 hv => by
    have e := zsp_k (f := f) (w := w) (m := m) (p := p) (N := N) (k := (k : Int)) (a := zat f w m p N k) (by omega) (by omega)
    rw [show ((m : Int) - (k : Int)).toNat = m - k by omega] at e
    rw [e] at hv
    have q := zrw1_ok hv
    rw [← e] at q
    have e2 : zrwk f w m p N k = zrw1 (zrg f w m p N (k : Int) (zat f w m p N k)) (zsp f w m p N (m - k) (zat f w m p N k)) p (zat f w m p N k) := rfl
    rw [← e2] at q
    refine ⟨q.1, q.2.1, q.2.2.1, ?_, q.2.2.2⟩
    have q3 := q.2.2.1
    rw [← e] at hv
    rw [← q3] at hv
    unfold zrg zcn1 at hv
    rw [Int.toNat_natCast] at hv
    by_cases c : f (zat f w m p N k) (zrwk f w m p N k) (w k) < 0 ∨ zsp f w m p N (m - (k + 1) : Int).toNat (zat f w m p N k + zrwk f w m p N k) = N
    · rw [if_pos c] at hv; omega
    · omega
  intro k
  induction k with
  | zero => intro _; exact ⟨⟨Int.le_refl _, hp⟩, h, fun hk => step 0 hk (Int.le_refl _) h⟩
  | succ k ih =>
    intro hk
    obtain ⟨h1, h2, h3⟩ := ih (by omega)
    obtain ⟨s1, s2, s3, s4, s5⟩ := h3 (by omega)
    have hv : zsp f w m p N (m - (k + 1)) (zat f w m p N (k + 1)) < N := by
      rw [zat_s]
      rw [← s3] at h2
      unfold zrg zcn1 at h2
      rw [Int.toNat_natCast, show ((m : Int) - ((k : Int) + 1)).toNat = m - (k + 1) by omega] at h2
      by_cases c : f (zat f w m p N k) (zrwk f w m p N k) (w k) < 0 ∨ zsp f w m p N (m - (k + 1)) (zat f w m p N k + zrwk f w m p N k) = N
      · rw [if_pos c] at h2; omega
      · rw [if_neg c] at h2; omega
    have h0 : 0 ≤ zat f w m p N (k + 1) := by rw [zat_s]; omega
    exact ⟨⟨h0, by rw [zat_s]; omega⟩, hv, fun hk2 => step (k + 1) hk2 h0 hv⟩
/-- the rows don't hang on N -/
theorem zat_N {f : Int → Int → Int → Int} {w : Nat → Int} {m : Nat} {p N M : Int} (hf : ∀ a k l : Int, 0 ≤ a → 1 ≤ k → k ≤ 3 → a + k ≤ p → 0 ≤ l → l < 26 → f a k l ≤ 100) (hw : zlet w m) (hN : 2000 ≤ N) (hM : 2000 ≤ M) (hm : m ≤ 12) (hp : 0 ≤ p) (h : zsp f w m p N m 0 < N) : ∀ {k : Nat}, k ≤ m → zat f w m p N k = zat f w m p M k ∧ (k < m → zrwk f w m p N k = zrwk f w m p M k) := by
  have hz := fun d a => zsp_b (f := f) (w := w) (m := m) (p := p) (N := N) (M := M) hf hw hN hM hm d a
  have step : ∀ k : Nat, k < m → zat f w m p N k = zat f w m p M k → zrwk f w m p N k = zrwk f w m p M k := fun k hk e => by
    have ok := zat_ok hp h (k := k) (by omega)
    have z0 := hz (m - k) (zat f w m p N k) (by omega) ok.1.1
    have eg : ∀ r : Int, 1 ≤ r → (zrg f w m p N (k : Int) (zat f w m p N k) r = zsp f w m p N (m - k) (zat f w m p N k) ↔ zrg f w m p M (k : Int) (zat f w m p N k) r = zsp f w m p M (m - k) (zat f w m p N k)) := fun r r0 => by
      have z1 := hz ((m : Int) - ((k : Int) + 1)).toNat (zat f w m p N k + r) (by omega) (by omega)
      unfold zrg zcn1
      have o1 := ok.2.1
      generalize zsp f w m p N (m - k) (zat f w m p N k) = A at *
      generalize zsp f w m p M (m - k) (zat f w m p N k) = B at *
      generalize zsp f w m p N ((m : Int) - ((k : Int) + 1)).toNat (zat f w m p N k + r) = C at *
      generalize zsp f w m p M ((m : Int) - ((k : Int) + 1)).toNat (zat f w m p N k + r) = D at *
      generalize f (zat f w m p N k) r (w ((k : Int)).toNat) = F at *
      by_cases c1 : F < 0 ∨ C = N <;> by_cases c2 : F < 0 ∨ D = M
      · rw [if_pos c1, if_pos c2]; omega
      · rw [if_pos c1, if_neg c2]; omega
      · rw [if_neg c1, if_pos c2]; omega
      · rw [if_neg c1, if_neg c2]; omega
    unfold zrwk zrw1
    rw [← e]
    simp only [eg 3 (by decide), eg 2 (by decide)]
  intro k
  induction k with
  | zero => intro _; exact ⟨rfl, fun hk => step 0 hk rfl⟩
  | succ k ih =>
    intro hk
    obtain ⟨i1, i2⟩ := ih (by omega)
    have e : zat f w m p N (k + 1) = zat f w m p M (k + 1) := by rw [zat_s, zat_s, i1, i2 (by omega)]
    exact ⟨e, fun hk2 => step (k + 1) hk2 e⟩
set_option maxRecDepth 100000 in
set_option maxHeartbeats 4000000 in
theorem lp_cr40 {k : Nat} {w : Nat → Int} {m : Nat} {p : Int} {f : Int → Int → Int → Int} {σ : zS} {R : Int → zS → Prop} (hw : zlet w m) (hm : m ≤ 12) (hp : 0 ≤ p ∧ p ≤ 14) (h51 : σ 5 1 = p) (hf : ∀ a k l : Int, 0 ≤ a → 1 ≤ k → k ≤ 3 → a + k ≤ p → 0 ≤ l → l < 26 → σ 29 (zfp a k l) = f a k l ∧ -1 ≤ f a k l ∧ f a k l ≤ 100) (h33 : ∀ x y : Int, 0 ≤ x → x ≤ m → 0 ≤ y → y ≤ p → σ 33 (x * 15 + y) = zsp f w m p 1000000 (m - x).toNat y) (hfin : zsp f w m p 1000000 m 0 < 1000000) (hk : k < m) (K : ∀ t : zS, zfr [34] σ t → (∀ j : Int, ¬ j = (k : Int) → t 34 j = σ 34 j) → t 34 (k : Int) = zrwk f w m p 1000000 k → zRuns 46 zX0 R 104 [some (.inr (.inr (7, 0))), some (.inr (.inr (5, 0))), some (.inr (.inl (zlc w m))), none, some (.inl (m : Int)), some (.inl (zat f w m p 1000000 k)), some (.inl (k : Int)), none] [] t) : ∀ (n : Nat) (r : Int) (t : zS), r + 1 < (n : Int) → (0 ≤ r ∧ r ≤ 3 ∧ (zat f w m p 1000000 k) + r ≤ p) → (zfr [34] σ t) → (∀ j : Int, ¬ j = (k : Int) → t 34 j = σ 34 j) → ((t 34 (k : Int) = 0 ∧ zrwk f w m p 1000000 k ≤ r) ∨ t 34 (k : Int) = zrwk f w m p 1000000 k) → zRuns 46 zX0 (fun (v : Int) (u : zS) => R v u) 40 [some (.inr (.inr (7, 0))), some (.inr (.inr (5, 0))), some (.inr (.inl (zlc w m))), none, some (.inl (m : Int)), some (.inl (zat f w m p 1000000 k)), some (.inl (k : Int)), some (.inl r)] [] t := by
  intro n
  induction n with
  | zero =>
    intro r t hn r0 hfr ho hd
    exfalso
    omega
  | succ n ih =>
    intro r t hn r0 hfr ho hd
    refine zwalk zmk_46 [(12, [true, true, true, false, true, true, true, false]), (40, [true, true, true, false, true, true, true, true]), (104, [true, true, true, false, true, true, true, false])] 3 ?_
    show ((r < (1 : Int) → zRuns 46 zX0 (fun (v : Int) (u : zS) => R v u) 104 [some (.inr (.inr (7, 0))), some (.inr (.inr (5, 0))), some (.inr (.inl (zlc w m))), none, some (.inl (m : Int)), some (.inl (zat f w m p 1000000 k)), some (.inl (k : Int)), none] [] t) ∧ ((1 : Int) ≤ r → ((0 ≤ (k : Int) ∧ (k : Int) < (12 : Int)) ∧ ((¬ (t 34 (k : Int)) = 0 → zRuns 46 zX0 (fun (v : Int) (u : zS) => R v u) 104 [some (.inr (.inr (7, 0))), some (.inr (.inr (5, 0))), some (.inr (.inl (zlc w m))), none, some (.inl (m : Int)), some (.inl (zat f w m p 1000000 k)), some (.inl (k : Int)), none] [] t) ∧ ((t 34 (k : Int)) = 0 → (∃ Rc : Int → zS → Prop, zAM 87 [.inr (.inl (zlc w m)), .inl (k : Int)] t Rc ∧ ∀ (v1 : Int) (u1 : zS), zI v1 → Rc v1 u1 → (∃ Rc : Int → zS → Prop, zAM 45 [.inr (.inr (7, 0)), .inr (.inr (5, 0)), .inl (k : Int), .inl v1, .inl (zat f w m p 1000000 k), .inl r] u1 Rc ∧ ∀ (v2 : Int) (u2 : zS), zI v2 → Rc v2 u2 → (zI ((k : Int) * (15 : Int)) ∧ (zI (((k : Int) * (15 : Int)) + (zat f w m p 1000000 k)) ∧ ((0 ≤ (((k : Int) * (15 : Int)) + (zat f w m p 1000000 k)) ∧ (((k : Int) * (15 : Int)) + (zat f w m p 1000000 k)) < (195 : Int)) ∧ ((¬ v2 = (u2 33 (((k : Int) * (15 : Int)) + (zat f w m p 1000000 k))) → (zI (r + (-1 : Int)) ∧ zRuns 46 zX0 (fun (v : Int) (u : zS) => R v u) 40 [some (.inr (.inr (7, 0))), some (.inr (.inr (5, 0))), some (.inr (.inl (zlc w m))), none, some (.inl (m : Int)), some (.inl (zat f w m p 1000000 k)), some (.inl (k : Int)), some (.inl (r + (-1 : Int)))] [] u2)) ∧ (v2 = (u2 33 (((k : Int) * (15 : Int)) + (zat f w m p 1000000 k))) → ((0 ≤ (k : Int) ∧ (k : Int) < (12 : Int)) ∧ (zI (r + (-1 : Int)) ∧ zRuns 46 zX0 (fun (v : Int) (u : zS) => R v u) 40 [some (.inr (.inr (7, 0))), some (.inr (.inr (5, 0))), some (.inr (.inl (zlc w m))), none, some (.inl (m : Int)), some (.inl (zat f w m p 1000000 k)), some (.inl (k : Int)), some (.inl (r + (-1 : Int)))] [] (zup u2 34 (k : Int) r)))))))))))))))
    have e5 : t 5 = σ 5 := hfr 5 (by decide)
    have e29 : t 29 = σ 29 := hfr 29 (by decide)
    have e33 : t 33 = σ 33 := hfr 33 (by decide)
    have e51 : t 5 1 = p := by rw [e5]; exact h51
    have hok := zat_ok hp.1 hfin (k := k) (by omega)
    have hz9 := zlc_lt hw hm
    have hrw := hok.2.2 hk
    have hwk := hw k hk
    have hr9 : 1 ≤ r → (t 29 (((zat f w m p 1000000 k) * 3 + r - 1) * 26 + w k) = f (zat f w m p 1000000 k) r (w k) ∧ -1 ≤ f (zat f w m p 1000000 k) r (w k) ∧ f (zat f w m p 1000000 k) r (w k) ≤ 100) ∧ t 33 (((k : Int) + 1) * 15 + (zat f w m p 1000000 k) + r) = zsp f w m p 1000000 ((m : Int) - ((k : Int) + 1)).toNat ((zat f w m p 1000000 k) + r) ∧ 0 ≤ t 33 (((k : Int) + 1) * 15 + (zat f w m p 1000000 k) + r) ∧ t 33 (((k : Int) + 1) * 15 + (zat f w m p 1000000 k) + r) ≤ 1000000 := fun q => by
      have x1 := hf (zat f w m p 1000000 k) r (w k) hok.1.1 q r0.2.1 r0.2.2 hwk.1 hwk.2
      have x2 := h33 ((k : Int) + 1) ((zat f w m p 1000000 k) + r) (by omega) (by omega) (by omega) r0.2.2
      rw [show ((k : Int) + 1) * 15 + ((zat f w m p 1000000 k) + r) = ((k : Int) + 1) * 15 + (zat f w m p 1000000 k) + r by omega] at x2
      have x3 := zsp_b (f := f) (w := w) (m := m) (p := p) (N := 1000000) (M := 1000000) (fun a k l a0 k0 k1 ak l0 l1 => (hf a k l a0 k0 k1 ak l0 l1).2.2) hw (by decide) (by decide) hm ((m : Int) - ((k : Int) + 1)).toNat ((zat f w m p 1000000 k) + r) (by omega) (by omega)
      rw [← x2] at x3
      rw [e29, e33]
      exact ⟨x1, x2, by omega, by omega⟩
    have hv9 : t 33 ((k : Int) * 15 + (zat f w m p 1000000 k)) = zsp f w m p 1000000 (m - k) (zat f w m p 1000000 k) := by
      rw [e33, h33 (k : Int) (zat f w m p 1000000 k) (by omega) (by omega) hok.1.1 hok.1.2, show ((m : Int) - (k : Int)).toNat = m - k by omega]
    refine ⟨?_, ?_⟩
    · intro h1
      exact K t hfr ho (by rcases hd with h9 | h9 <;> omega)
    · intro h2
      refine ⟨by (first | exact ⟨by omega, by omega⟩ | (exfalso; omega)), ?_⟩
      refine ⟨?_, ?_⟩
      · intro h3
        exact K t hfr ho (by rcases hd with h9 | h9 <;> omega)
      · intro h4
        refine ⟨_, am_X8_letterAt (hz9) (by omega), ?_⟩
        intro v1 u1 hv1
        rintro ⟨rfl, ev1⟩
        obtain ⟨hv1a, hv1b⟩ := hv1
        have el : v1 = w k := by rw [← ev1, zdg_lc hw hm (by omega) (by omega), if_pos (by omega), Int.toNat_natCast]; omega
        subst el
        refine ⟨_, am_X6_costBy (by omega) (by (have q9 := hr9 (by omega); rw [q9.1.1]; exact q9.1.2)) ((hr9 (by omega)).2.2), ?_⟩
        intro v2 u2 hv2
        rintro ⟨rfl, ev2⟩
        obtain ⟨hv2a, hv2b⟩ := hv2
        have q9 := hr9 (by omega)
        rw [q9.1.1, q9.2.1] at ev2
        have eg : zrg f w m p 1000000 (k : Int) (zat f w m p 1000000 k) r = v2 := by
          rw [← ev2]
          unfold zrg zcn1
          rw [Int.toNat_natCast]
          by_cases c : f (zat f w m p 1000000 k) r (w k) < 0 ∨ zsp f w m p 1000000 ((m : Int) - ((k : Int) + 1)).toNat ((zat f w m p 1000000 k) + r) = 1000000
          · rw [if_pos c, if_pos (by omega)]
          · rw [if_neg c, if_neg (by omega)]
        refine ⟨by (first | exact ⟨by omega, by omega⟩ | (exfalso; omega)), ?_⟩
        refine ⟨by (first | exact ⟨by omega, by omega⟩ | (exfalso; omega)), ?_⟩
        refine ⟨by (first | exact ⟨by omega, by omega⟩ | (exfalso; omega)), ?_⟩
        refine ⟨?_, ?_⟩
        · intro h5
          refine ⟨by (first | exact ⟨by omega, by omega⟩ | (exfalso; omega)), ?_⟩
          refine ih (r + -1) t (by omega) ⟨by omega, by omega, by omega⟩ hfr ho (Or.inl ⟨by omega, ?_⟩)
          have h8 := hrw.2.2.1
          by_cases g : zrwk f w m p 1000000 k = r
          · rw [g, eg, ← hv9] at h8
            exact absurd h8 (by assumption)
          · omega
        · intro h6
          refine ⟨by (first | exact ⟨by omega, by omega⟩ | (exfalso; omega)), ?_⟩
          refine ⟨by (first | exact ⟨by omega, by omega⟩ | (exfalso; omega)), ?_⟩
          refine ih (r + -1) _ (by omega) ⟨by omega, by omega, by omega⟩ (hfr.up (c := 34) (by decide)) (fun j hj => ?_) (Or.inr ?_)
          · rw [zup_at, if_neg hj]; exact ho j hj
          · rw [zup_at, if_pos rfl]
            by_cases g : zrwk f w m p 1000000 k = r
            · exact g.symm
            · have h8 := hrw.2.2.2.2 r (by omega) r0.2.1 r0.2.2
              exact absurd (by rw [eg, ← hv9]; assumption) h8
