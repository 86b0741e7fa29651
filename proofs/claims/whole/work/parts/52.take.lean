/-! the class's take -/
def zfp (a k l : Int) : Int := (a * 3 + k - 1) * 26 + l
def zTD (cnt : Int → Int → Int) (σ t : zS) (b p a k : Int) : Prop := (∀ x y l : Int, 0 ≤ x → 1 ≤ y → y ≤ 3 → x + y ≤ p → (x < a ∨ x = a ∧ y < k) → 0 ≤ l → l < 26 → t 29 (zfp x y l) = zfm cnt (σ 18) (σ 19) b x y l) ∧ ∀ x y l : Int, (a < x ∨ x = a ∧ k ≤ y) → 0 ≤ x → x < 14 → 1 ≤ y → y ≤ 3 → 0 ≤ l → l < 26 → t 29 (zfp x y l) = -1
set_option maxRecDepth 100000 in
set_option maxHeartbeats 4000000 in
theorem lp_tk54 {a : Int} {b : Int} {p : Int} {cnt : Int → Int → Int} {σ : zS} {R : Int → zS → Prop} (hcf : zCT σ cnt) (hcb : ∀ l r : Int, 0 ≤ cnt l r ∧ cnt l r ≤ 999) (hp : 0 ≤ p ∧ p ≤ 14) (h51 : σ 5 1 = p) (hb : 0 ≤ b ∧ b + p ≤ σ 2 7 ∧ σ 2 7 ≤ 40) (hs : ∀ j : Int, 0 ≤ j → j < σ 2 7 → 0 ≤ σ 18 j ∧ σ 18 j < 12) (ha : 0 ≤ a ∧ a < p) (K : ∀ t : zS, zfr [29] σ t → zTD cnt σ t b p (a + 1) 1 → zRuns 9 zX0 R 42 [some (.inr (.inr (5, 0))), some (.inr (.inr (2, 0))), none, some (.inr (.inr (3, 0))), some (.inl b), some (.inl (a + 1)), none, none] [] t) : ∀ (n : Nat) (k : Int) (t : zS), 4 - k < (n : Int) → (1 ≤ k ∧ k ≤ 4) → (zfr [29] σ t) → (zTD cnt σ t b p a k) → zRuns 9 zX0 (fun (v : Int) (u : zS) => R v u) 54 [some (.inr (.inr (5, 0))), some (.inr (.inr (2, 0))), none, some (.inr (.inr (3, 0))), some (.inl b), some (.inl a), some (.inl k), none] [] t := by
  intro n
  induction n with
  | zero =>
    intro k t hn k0 hf hT
    exfalso
    omega
  | succ n ih =>
    intro k t hn k0 hf hT
    refine zwalk zmk_9 [(23, [true, true, true, true, false, false, false, false]), (42, [true, true, false, true, true, true, false, false]), (54, [true, true, false, true, true, true, true, false])] 3 ?_
    show (((3 : Int) < k → (zI (a + (1 : Int)) ∧ zRuns 9 zX0 (fun (v : Int) (u : zS) => R v u) 42 [some (.inr (.inr (5, 0))), some (.inr (.inr (2, 0))), none, some (.inr (.inr (3, 0))), some (.inl b), some (.inl (a + (1 : Int))), none, none] [] t)) ∧ (k ≤ (3 : Int) → (zI (a + k) ∧ (((t 5 (1 : Int)) < (a + k) → (zI (a + (1 : Int)) ∧ zRuns 9 zX0 (fun (v : Int) (u : zS) => R v u) 42 [some (.inr (.inr (5, 0))), some (.inr (.inr (2, 0))), none, some (.inr (.inr (3, 0))), some (.inl b), some (.inl (a + (1 : Int))), none, none] [] t)) ∧ ((a + k) ≤ (t 5 (1 : Int)) → (zI (b + a) ∧ (∃ Rc : Int → zS → Prop, zAM 22 [.inr (.inr (2, 0)), .inl (b + a), .inl k] t Rc ∧ ∀ (v1 : Int) (u1 : zS), zI v1 → Rc v1 u1 → (∃ Rc : Int → zS → Prop, zAM 12 [.inl a, .inl k, .inl (0 : Int)] u1 Rc ∧ ∀ (v2 : Int) (u2 : zS), zI v2 → Rc v2 u2 → (zI (b + a) ∧ (∃ Rc : Int → zS → Prop, zAM 23 [.inr (.inr (2, 0)), .inl (b + a), .inl k] u2 Rc ∧ ∀ (v3 : Int) (u3 : zS), zI v3 → Rc v3 u3 → (∃ Rc : Int → zS → Prop, zAM 10 [.inr (.inr (5, 0)), .inr (.inr (3, 0)), .inl v2, .inl v1, .inl v3] u3 Rc ∧ ∀ (u4 : zS), Rc 0 u4 → (zI (k + (1 : Int)) ∧ zRuns 9 zX0 (fun (v : Int) (u : zS) => R v u) 54 [some (.inr (.inr (5, 0))), some (.inr (.inr (2, 0))), none, some (.inr (.inr (3, 0))), some (.inl b), some (.inl a), some (.inl (k + (1 : Int))), none] [] u4))))))))))))
    have e5 : t 5 = σ 5 := hf 5 (by decide)
    have e2 : t 2 = σ 2 := hf 2 (by decide)
    have e3 : t 3 = σ 3 := hf 3 (by decide)
    have e18 : t 18 = σ 18 := hf 18 (by decide)
    have e19 : t 19 = σ 19 := hf 19 (by decide)
    have e22 : t 22 = σ 22 := hf 22 (by decide)
    have e23 : t 23 = σ 23 := hf 23 (by decide)
    have e24 : t 24 = σ 24 := hf 24 (by decide)
    have e51 : t 5 1 = p := by rw [e5]; exact h51
    have e27 : t 2 7 = σ 2 7 := by rw [e2]
    refine ⟨?_, ?_⟩
    · intro h1
      refine ⟨by (first | exact ⟨by omega, by omega⟩ | (exfalso; omega)), ?_⟩
      refine K t hf ⟨fun x y l x0 y0 y1 xy q l0 l1 => hT.1 x y l x0 y0 y1 xy (by omega) l0 l1, fun x y l q x0 x1 y0 y1 l0 l1 => hT.2 x y l (by omega) x0 x1 y0 y1 l0 l1⟩
    · intro h2
      refine ⟨by (first | exact ⟨by omega, by omega⟩ | (exfalso; omega)), ?_⟩
      refine ⟨?_, ?_⟩
      · intro h3
        refine ⟨by (first | exact ⟨by omega, by omega⟩ | (exfalso; omega)), ?_⟩
        refine K t hf ⟨fun x y l x0 y0 y1 xy q l0 l1 => hT.1 x y l x0 y0 y1 xy (by omega) l0 l1, fun x y l q x0 x1 y0 y1 l0 l1 => hT.2 x y l (by omega) x0 x1 y0 y1 l0 l1⟩
      · intro h4
        refine ⟨by (first | exact ⟨by omega, by omega⟩ | (exfalso; omega)), ?_⟩
        refine ⟨_, am_X2_rowCodeAt (by rw [e27]; omega) (by omega) (fun j a0 a1 => by rw [e18]; exact hs j (by omega) (by omega)), ?_⟩
        intro v1 u1 hv1
        rintro ⟨rfl, ev1⟩
        obtain ⟨hv1a, hv1b⟩ := hv1
        rw [e18] at ev1
        refine ⟨_, am_X1_place (by omega), ?_⟩
        intro v2 u2 hv2
        rintro ⟨rfl, ev2⟩
        obtain ⟨hv2a, hv2b⟩ := hv2
        refine ⟨by (first | exact ⟨by omega, by omega⟩ | (exfalso; omega)), ?_⟩
        refine ⟨_, am_X2_hasDot (by rw [e27]; omega) (by omega), ?_⟩
        intro v3 u3 hv3
        intro kv3
        obtain ⟨hv3a, hv3b⟩ := hv3
        obtain ⟨rfl, kdv3⟩ := kv3
        rw [e19] at kdv3
        refine ⟨_, am_X1_takeRow (cnt := cnt) (dd := zhd (σ 19) (b + a) k.toNat) (by unfold zCT at *; rw [e3, e22, e23, e24]; exact hcf) (hcb) (by omega) (kdv3), ?_⟩
        intro u4
        intro kv4
        refine ⟨by (first | exact ⟨by omega, by omega⟩ | (exfalso; omega)), ?_⟩
        have ep : v2 = zfp a k 0 := by rw [← ev2]; rfl
        obtain ⟨g1, g2, g3⟩ := kv4
        refine ih (k + 1) u4 (by omega) ⟨by omega, by omega⟩ (fun q hq => by rw [g1 q hq, hf q hq]) ⟨fun x y l x0 y0 y1 xy q l0 l1 => ?_, fun x y l q x0 x1 y0 y1 l0 l1 => ?_⟩
        · by_cases g : x = a ∧ y = k
          · have e9 := g3 l l0 l1
            have ez : v2 + l = zfp x y l := by rw [ep]; unfold zfp; rw [g.1, g.2]; omega
            rw [ez, hT.2 x y l (by omega) x0 (by omega) y0 y1 l0 l1] at e9
            rw [e9, ← ev1, g.1, g.2]
            rfl
          · rw [g2 _ (by rw [ep]; unfold zfp; omega)]
            exact hT.1 x y l x0 y0 y1 xy (by omega) l0 l1
        · rw [g2 _ (by rw [ep]; unfold zfp; omega)]
          exact hT.2 x y l (by omega) x0 x1 y0 y1 l0 l1
set_option maxRecDepth 100000 in
set_option maxHeartbeats 4000000 in
theorem lp_tk42 {b : Int} {p : Int} {cnt : Int → Int → Int} {σ : zS} (hcf : zCT σ cnt) (hcb : ∀ l r : Int, 0 ≤ cnt l r ∧ cnt l r ≤ 999) (hp : 0 ≤ p ∧ p ≤ 14) (h51 : σ 5 1 = p) (hb : 0 ≤ b ∧ b + p ≤ σ 2 7 ∧ σ 2 7 ≤ 40) (hs : ∀ j : Int, 0 ≤ j → j < σ 2 7 → 0 ≤ σ 18 j ∧ σ 18 j < 12) : ∀ (n : Nat) (a : Int) (t : zS), p + 1 - a < (n : Int) → (0 ≤ a ∧ a ≤ p) → (zfr [29] σ t) → (zTD cnt σ t b p a 1) → zRuns 9 zX0 (fun (v : Int) (u : zS) => zfr [29] σ u ∧ ∀ x y l : Int, 0 ≤ x → 1 ≤ y → y ≤ 3 → x + y ≤ p → 0 ≤ l → l < 26 → u 29 (zfp x y l) = zfm cnt (σ 18) (σ 19) b x y l) 42 [some (.inr (.inr (5, 0))), some (.inr (.inr (2, 0))), none, some (.inr (.inr (3, 0))), some (.inl b), some (.inl a), none, none] [] t := by
  intro n
  induction n with
  | zero =>
    intro a t hn a0 hf hT
    exfalso
    omega
  | succ n ih =>
    intro a t hn a0 hf hT
    refine zwalk zmk_9 [(42, [true, true, false, true, true, true, false, false]), (54, [true, true, false, true, true, true, true, false])] 3 ?_
    show (((t 5 (1 : Int)) ≤ a → (zfr [29] σ t ∧ ∀ x y l : Int, 0 ≤ x → 1 ≤ y → y ≤ 3 → x + y ≤ p → 0 ≤ l → l < 26 → t 29 (zfp x y l) = zfm cnt (σ 18) (σ 19) b x y l)) ∧ (a < (t 5 (1 : Int)) → zRuns 9 zX0 (fun (v : Int) (u : zS) => zfr [29] σ u ∧ ∀ x y l : Int, 0 ≤ x → 1 ≤ y → y ≤ 3 → x + y ≤ p → 0 ≤ l → l < 26 → u 29 (zfp x y l) = zfm cnt (σ 18) (σ 19) b x y l) 54 [some (.inr (.inr (5, 0))), some (.inr (.inr (2, 0))), none, some (.inr (.inr (3, 0))), some (.inl b), some (.inl a), some (.inl (1 : Int)), none] [] t))
    have e5 : t 5 = σ 5 := hf 5 (by decide)
    have e2 : t 2 = σ 2 := hf 2 (by decide)
    have e3 : t 3 = σ 3 := hf 3 (by decide)
    have e18 : t 18 = σ 18 := hf 18 (by decide)
    have e19 : t 19 = σ 19 := hf 19 (by decide)
    have e22 : t 22 = σ 22 := hf 22 (by decide)
    have e23 : t 23 = σ 23 := hf 23 (by decide)
    have e24 : t 24 = σ 24 := hf 24 (by decide)
    have e51 : t 5 1 = p := by rw [e5]; exact h51
    have e27 : t 2 7 = σ 2 7 := by rw [e2]
    refine ⟨?_, ?_⟩
    · intro h1
      exact ⟨hf, fun x y l x0 y0 y1 xy l0 l1 => hT.1 x y l x0 y0 y1 xy (by omega) l0 l1⟩
    · intro h2
      exact lp_tk54 hcf hcb hp h51 hb hs ⟨by omega, by omega⟩ (fun t9 g1 g2 => ih (a + 1) t9 (by omega) ⟨by omega, by omega⟩ g1 g2) 4 1 t (by omega) ⟨by omega, by omega⟩ hf hT
theorem zTD_0 {cnt : Int → Int → Int} {σ τ : zS} {b p : Int} : zTD cnt σ (zfill τ 29 0 1092 (-1)) b p 0 1 := by
  refine ⟨fun x y l x0 y0 y1 xy q l0 l1 => by omega, fun x y l q x0 x1 y0 y1 l0 l1 => ?_⟩
  exact if_pos ⟨rfl, by unfold zfp; omega, by unfold zfp; omega⟩
set_option maxRecDepth 100000 in
set_option maxHeartbeats 4000000 in
theorem lp_tk23 {i p : Int} {cnt : Int → Int → Int} {σ : zS} (hi : 0 ≤ i ∧ i < 40) (hb : 0 ≤ σ 20 i ∧ 0 ≤ p ∧ σ 20 i + p ≤ σ 2 7 ∧ σ 2 7 ≤ 40) (hp : p ≤ 14) (h51 : σ 5 1 = p) (hcf : zCT σ cnt) (hcb : ∀ l r : Int, 0 ≤ cnt l r ∧ cnt l r ≤ 999) (hs : ∀ j : Int, 0 ≤ j → j < σ 2 7 → 0 ≤ σ 18 j ∧ σ 18 j < 12) : zRuns 9 zX0 (fun (v : Int) (u : zS) => zfr [29] σ u ∧ ∀ x y l : Int, 0 ≤ x → 1 ≤ y → y ≤ 3 → x + y ≤ p → 0 ≤ l → l < 26 → u 29 (zfp x y l) = zfm cnt (σ 18) (σ 19) (σ 20 i) x y l) 23 [some (.inr (.inr (5, 0))), some (.inr (.inr (2, 0))), some (.inl i), some (.inr (.inr (3, 0))), none, none, none, none] [] σ := by
  refine zwalk zmk_9 [(42, [true, true, false, true, true, true, false, false]), (54, [true, true, false, true, true, true, true, false])] 2 ?_
  show (∃ Rc : Int → zS → Prop, zAM 158 [.inr (.inr (29, 0)), .inl (-1 : Int)] σ Rc ∧ ∀ (u1 : zS), Rc 0 u1 → ((0 ≤ i ∧ i < (41 : Int)) ∧ zRuns 9 zX0 (fun (v : Int) (u : zS) => zfr [29] σ u ∧ ∀ x y l : Int, 0 ≤ x → 1 ≤ y → y ≤ 3 → x + y ≤ p → 0 ≤ l → l < 26 → u 29 (zfp x y l) = zfm cnt (σ 18) (σ 19) (σ 20 i) x y l) 42 [some (.inr (.inr (5, 0))), some (.inr (.inr (2, 0))), none, some (.inr (.inr (3, 0))), some (.inl (u1 20 i)), some (.inl (0 : Int)), none, none] [] u1))
  refine ⟨_, am_fill_costs, ?_⟩
  intro u1
  rintro rfl
  refine ⟨by (first | exact ⟨by omega, by omega⟩ | (exfalso; omega)), ?_⟩
  refine (lp_tk42 (σ := zfill σ 29 0 1092 (-1)) (b := σ 20 i) (p := p) (cnt := cnt) hcf hcb ⟨hb.2.1, hp⟩ h51 ⟨hb.1, hb.2.2⟩ hs (p.toNat + 2) 0 _ (by omega) ⟨by omega, by omega⟩ zfr.rf zTD_0).mono (fun v u q => ⟨fun k hk => ?_, q.2⟩)
  rw [q.1 k hk]
  funext x
  exact if_neg (fun z => hk (by rw [z.1]; decide))
set_option maxRecDepth 100000 in
set_option maxHeartbeats 4000000 in
theorem am_X1_take {σ : zS} {i : Int} {p : Int} {cnt : Int → Int → Int} (hi : 0 ≤ i ∧ i < 40) (hb : 0 ≤ σ 20 i ∧ 0 ≤ p ∧ σ 20 i + p ≤ σ 2 7 ∧ σ 2 7 ≤ 40 ∧ σ 20 (i + 1) = σ 20 i + p) (hcf : zCT σ cnt) (hcb : ∀ l r : Int, 0 ≤ cnt l r ∧ cnt l r ≤ 999) (hs : ∀ j : Int, 0 ≤ j → j < σ 2 7 → 0 ≤ σ 18 j ∧ σ 18 j < 12) : zAM 9 [.inr (.inr (5, 0)), .inr (.inr (2, 0)), .inl i, .inr (.inr (3, 0))] σ (fun (v : Int) (u : zS) => zfr [5, 29] σ u ∧ u 5 1 = (if 14 < p then 0 else p) ∧ (p ≤ 14 → ∀ x y l : Int, 0 ≤ x → 1 ≤ y → y ≤ 3 → x + y ≤ p → 0 ≤ l → l < 26 → u 29 (zfp x y l) = zfm cnt (σ 18) (σ 19) (σ 20 i) x y l)) := by
  refine zam (by decide) (Nat.le_of_ble_eq_true rfl) ?_
  refine zwalk zmk_9 [(23, [true, true, true, true, false, false, false, false])] 2 ?_
  show (∃ Rc : Int → zS → Prop, zAM 21 [.inr (.inr (2, 0)), .inl i] σ Rc ∧ ∀ (v1 : Int) (u1 : zS), zI v1 → Rc v1 u1 → ((v1 ≤ (14 : Int) → zRuns 9 zX0 (fun (v : Int) (u : zS) => zfr [5, 29] σ u ∧ u 5 1 = (if 14 < p then 0 else p) ∧ (p ≤ 14 → ∀ x y l : Int, 0 ≤ x → 1 ≤ y → y ≤ 3 → x + y ≤ p → 0 ≤ l → l < 26 → u 29 (zfp x y l) = zfm cnt (σ 18) (σ 19) (σ 20 i) x y l)) 23 [some (.inr (.inr (5, 0))), some (.inr (.inr (2, 0))), some (.inl i), some (.inr (.inr (3, 0))), none, none, none, none] [] (zup u1 5 (1 : Int) v1)) ∧ ((14 : Int) < v1 → zRuns 9 zX0 (fun (v : Int) (u : zS) => zfr [5, 29] σ u ∧ u 5 1 = (if 14 < p then 0 else p) ∧ (p ≤ 14 → ∀ x y l : Int, 0 ≤ x → 1 ≤ y → y ≤ 3 → x + y ≤ p → 0 ≤ l → l < 26 → u 29 (zfp x y l) = zfm cnt (σ 18) (σ 19) (σ 20 i) x y l)) 23 [some (.inr (.inr (5, 0))), some (.inr (.inr (2, 0))), some (.inl i), some (.inr (.inr (3, 0))), none, none, none, none] [] (zup (zup u1 5 (1 : Int) v1) 5 (1 : Int) (0 : Int)))))
  refine ⟨_, am_X2_piecesOf (by omega) (by omega) (by omega), ?_⟩
  intro v1 u1 hv1
  rintro ⟨rfl, ev1⟩
  obtain ⟨hv1a, hv1b⟩ := hv1
  have ep : v1 = p := by omega
  refine ⟨?_, ?_⟩
  · intro h1
    subst ep
    refine (lp_tk23 (σ := zup σ 5 1 v1) (p := v1) hi ⟨hb.1, by omega, hb.2.2.1, hb.2.2.2.1⟩ (by omega) rfl hcf hcb hs).mono (fun v u q => ⟨fun k hk => ?_, ?_, fun q2 => q.2⟩)
    · rw [q.1 k (fun z => hk (List.mem_cons_of_mem _ z)), zup_ne (fun z => hk (by rw [z]; decide))]
    · rw [if_neg (by omega), q.1 5 (by decide), zup_at, if_pos rfl]
  · intro h2
    subst ep
    refine (lp_tk23 (σ := zup (zup σ 5 1 v1) 5 1 0) (p := 0) hi ⟨hb.1, by omega, (by show σ 20 i + 0 ≤ σ 2 7; omega), hb.2.2.2.1⟩ (by omega) rfl hcf hcb hs).mono (fun v u q => ⟨fun k hk => ?_, ?_, fun q2 => by omega⟩)
    · rw [q.1 k (fun z => hk (List.mem_cons_of_mem _ z)), zup_ne (fun z => hk (by rw [z]; decide)), zup_ne (fun z => hk (by rw [z]; decide))]
    · rw [if_pos (by omega), q.1 5 (by decide), zup_at, if_pos rfl]
