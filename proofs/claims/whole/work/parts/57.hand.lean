/-! the class's ink in hand -/
def zff (σ : zS) (cnt : Int → Int → Int) (i : Int) : Int → Int → Int → Int := zfm cnt (σ 18) (σ 19) (σ 20 i)
def zqq (σ : zS) (i : Int) : Int := if 14 < σ 20 (i + 1) - σ 20 i then 0 else σ 20 (i + 1) - σ 20 i
def zHD (σ : zS) (f : Int → Int → Int → Int) (P : Int → Int → Int) (q : Int) : Prop := (0 ≤ q ∧ q ≤ 14) ∧ σ 5 1 = q ∧ (∀ a k l : Int, 0 ≤ a → 1 ≤ k → k ≤ 3 → a + k ≤ q → 0 ≤ l → l < 26 → σ 29 (zfp a k l) = f a k l ∧ -1 ≤ f a k l ∧ f a k l ≤ 100) ∧ zTH σ 312 (zSD f P q)
/-- THE LINE and the counts are in order -/
def zOK (σ : zS) (cnt : Int → Int → Int) (P : Int → Int → Int) : Prop := ((0 ≤ σ 2 10 ∧ σ 2 10 ≤ 40) ∧ 0 ≤ σ 2 7 ∧ σ 2 7 ≤ 40) ∧ (∀ i : Int, 0 ≤ i → i < σ 2 10 → 0 ≤ σ 20 i ∧ σ 20 i ≤ σ 20 (i + 1) ∧ σ 20 (i + 1) ≤ σ 2 7) ∧ zCT σ cnt ∧ (∀ l r : Int, 0 ≤ cnt l r ∧ cnt l r ≤ 999) ∧ (∀ j : Int, 0 ≤ j → j < σ 2 7 → 0 ≤ σ 18 j ∧ σ 18 j < 12) ∧ ∀ x y : Int, 0 ≤ x → x < 26 → 0 ≤ y → y < 26 → (0 ≤ σ 22 (x * 26 + y) ∧ σ 22 (x * 26 + y) ≤ 999) ∧ 6 / (σ 22 (x * 26 + y) + 1) = P x y
def zIH (σ : zS) (cnt : Int → Int → Int) (P : Int → Int → Int) : Prop := ∀ i : Int, 0 ≤ i → i < σ 2 10 → σ 0 4 = i → zHD σ (zff σ cnt i) P (zqq σ i)
abbrev zHK : List Nat := [0, 5, 6, 29, 30, 31, 32]
def zTK (ks : List Nat) (σ u : zS) (cnt : Int → Int → Int) (P : Int → Int → Int) (i : Int) : Prop := zfr ks σ u ∧ (∀ j : Int, ¬ j = 4 → u 0 j = σ 0 j) ∧ u 0 4 = i ∧ zHD u (zff σ cnt i) P (zqq σ i)
theorem zOK.fr {σ t : zS} {cnt : Int → Int → Int} {P : Int → Int → Int} (h : zOK σ cnt P) (e2 : t 2 = σ 2) (e3 : t 3 = σ 3) (e18 : t 18 = σ 18) (e20 : t 20 = σ 20) (e22 : t 22 = σ 22) (e23 : t 23 = σ 23) (e24 : t 24 = σ 24) : zOK t cnt P := by
  unfold zOK zCT at *
  rw [e2, e3, e18, e20, e22, e23, e24]
  exact h
theorem zff_fr {σ t : zS} {cnt : Int → Int → Int} {i : Int} (e18 : t 18 = σ 18) (e19 : t 19 = σ 19) (e20 : t 20 = σ 20) : zff t cnt i = zff σ cnt i ∧ zqq t i = zqq σ i := by
  unfold zff zqq
  rw [e18, e19, e20]
  exact ⟨rfl, rfl⟩
theorem zfm_r {cnt : Int → Int → Int} {sh o : Int → Int} {b a k l : Int} : -1 ≤ zfm cnt sh o b a k l ∧ zfm cnt sh o b a k l ≤ 100 := by
  unfold zfm zFm
  split
  · omega
  · have := zct_r (l := l) (cnt := cnt l (zrc k (sh (b + a)) (sh (b + a + 1)) (sh (b + a + 2)))) (d := zhd o (b + a) k.toNat) (by omega)
    omega
theorem z6r {c : Int} (h : 0 ≤ c) : 0 ≤ 6 / (c + 1) ∧ 6 / (c + 1) ≤ 6 := by
  refine ⟨Int.ediv_nonneg (by decide) (by omega), Int.ediv_le_self _ (by decide)⟩
theorem zgb_of {σ : zS} {cnt : Int → Int → Int} {P : Int → Int → Int} {i q : Int} (h : zOK σ cnt P) : zgb (zff σ cnt i) P q := by
  refine ⟨fun a k l _ _ _ _ _ _ => zfm_r.2, fun a b a0 a1 b0 b1 => ?_⟩
  have h1 := h.2.2.2.2.2 a b a0 a1 b0 b1
  rw [← h1.2]
  exact z6r h1.1.1
theorem zqq_r {σ : zS} {cnt : Int → Int → Int} {P : Int → Int → Int} {i : Int} (h : zOK σ cnt P) (i0 : 0 ≤ i) (i1 : i < σ 2 10) : 0 ≤ zqq σ i ∧ zqq σ i ≤ 14 := by
  have h1 := h.2.1 i i0 i1
  unfold zqq
  split <;> omega
theorem zHD.fr {σ t : zS} {f : Int → Int → Int → Int} {P : Int → Int → Int} {q : Int} (h : zHD σ f P q) (e5 : t 5 1 = σ 5 1) (e29 : t 29 = σ 29) (e30 : t 30 = σ 30) (e31 : t 31 = σ 31) (e32 : t 32 = σ 32) : zHD t f P q := by
  unfold zHD zTH at *
  rw [e5, e29, e30, e31, e32]
  exact h
set_option maxRecDepth 100000 in
set_option maxHeartbeats 4000000 in
theorem am_X8_takeInHand {σ : zS} {i : Int} {cnt : Int → Int → Int} {P : Int → Int → Int} (hO : zOK σ cnt P) (hI : zIH σ cnt P) (hi : 0 ≤ i ∧ i < σ 2 10) : zAM 90 [.inr (.inr (0, 0)), .inl i] σ (fun (v : Int) (u : zS) => zTK zHK σ u cnt P i) := by
  refine zam (by decide) (Nat.le_of_ble_eq_true rfl) ?_
  refine zwalk zmk_90 [] 3 ?_
  show (((σ 0 (4 : Int)) = i → (zTK zHK σ σ cnt P i)) ∧ (¬ (σ 0 (4 : Int)) = i → (∃ Rc : Int → zS → Prop, zAM 9 [.inr (.inr (5, 0)), .inr (.inr (2, 0)), .inl i, .inr (.inr (3, 0))] σ Rc ∧ ∀ (u1 : zS), Rc 0 u1 → (∃ Rc : Int → zS → Prop, zAM 26 [.inr (.inr (6, 0)), .inr (.inr (5, 0)), .inr (.inr (3, 0))] u1 Rc ∧ ∀ (u2 : zS), Rc 0 u2 → (zTK zHK σ (zup u2 0 (4 : Int) i) cnt P i)))))
  refine ⟨?_, ?_⟩
  · intro h1
    exact ⟨zfr.rf, fun _ _ => rfl, by omega, hI i hi.1 hi.2 (by omega)⟩
  · intro h2
    refine ⟨_, am_X1_take (p := σ 20 (i + 1) - σ 20 i) (cnt := cnt) ((by have h1 := hO.1; omega)) ((by have h1 := hO.1; have h2 := hO.2.1 i hi.1 hi.2; omega)) (hO.2.2.1) (hO.2.2.2.1) (hO.2.2.2.2.1), ?_⟩
    intro u1
    intro kv1
    obtain ⟨g1, g2, g3⟩ := kv1
    have e18 : u1 18 = σ 18 := g1 18 (by decide)
    have e19 : u1 19 = σ 19 := g1 19 (by decide)
    have e22 : u1 22 = σ 22 := g1 22 (by decide)
    have hq := zqq_r hO hi.1 hi.2
    have hf29 : ∀ a k l : Int, 0 ≤ a → 1 ≤ k → k ≤ 3 → a + k ≤ zqq σ i → 0 ≤ l → l < 26 → u1 29 (zfp a k l) = zff σ cnt i a k l ∧ -1 ≤ zff σ cnt i a k l ∧ zff σ cnt i a k l ≤ 100 := fun a k l a0 k0 k1 ak l0 l1 => by
      have hp : σ 20 (i + 1) - σ 20 i ≤ 14 ∧ a + k ≤ σ 20 (i + 1) - σ 20 i := by unfold zqq at ak; split at ak <;> omega
      exact ⟨g3 hp.1 a k l a0 k0 k1 hp.2 l0 l1, zfm_r⟩
    refine ⟨_, am_X4_read (f := zff σ cnt i) (P := P) (p := zqq σ i) (zgb_of hO) (hq) (g2) (fun a k l a0 k0 k1 ak l0 l1 => (hf29 a k l a0 k0 k1 ak l0 l1) |> fun z => ⟨z.1, z.2.1⟩) (fun x y x0 x1 y0 y1 => by rw [e22]; exact (hO.2.2.2.2.2 x y x0 x1 y0 y1).2) (fun x y x0 x1 y0 y1 => by rw [e22]; exact (hO.2.2.2.2.2 x y x0 x1 y0 y1).1), ?_⟩
    intro u2
    intro kv2
    have e0 : u2 0 = σ 0 := by rw [kv2.1 0 (by decide), g1 0 (by decide)]
    refine ⟨fun k hk => ?_, fun j hj => ?_, ?_, ⟨hq, ?_, fun a k l a0 k0 k1 ak l0 l1 => ?_, ?_⟩⟩
    · rw [zup_ne (fun z => hk (by rw [z]; decide)), kv2.1 k (fun z => hk (by simp only [List.mem_cons, List.not_mem_nil, or_false] at z ⊢; omega)), g1 k (fun z => hk (by simp only [List.mem_cons, List.not_mem_nil, or_false] at z ⊢; omega))]
    · rw [zup_at, if_neg hj, e0]
    · rw [zup_at, if_pos rfl]
    · rw [zup_ne (by decide), kv2.1 5 (by decide)]; exact g2
    · rw [zup_ne (by decide), kv2.1 29 (by decide)]; exact hf29 a k l a0 k0 k1 ak l0 l1
    · unfold zTH
      rw [zup_ne (k := 0) (j := 30) (by decide), zup_ne (k := 0) (j := 31) (by decide), zup_ne (k := 0) (j := 32) (by decide)]
      exact kv2.2
theorem zplace_ex {σ : zS} {x : Int} (h : 0 ≤ σ 4 3) : ∃ w : Int, zplace σ x w := by
  have key : ∀ n : Nat, (n : Int) ≤ σ 4 3 → (∃ v : Int, 0 ≤ v ∧ v < n ∧ σ 28 v = x ∧ ∀ j : Int, 0 ≤ j → j < v → ¬ σ 28 j = x) ∨ ∀ j : Int, 0 ≤ j → j < n → ¬ σ 28 j = x := by
    intro n
    induction n with
    | zero => intro _; exact Or.inr (fun j a b => by omega)
    | succ n ih =>
      intro hn
      rcases ih (by omega) with ⟨v, a, b, c⟩ | q
      · exact Or.inl ⟨v, a, by omega, c⟩
      · by_cases e : σ 28 n = x
        · exact Or.inl ⟨n, by omega, by omega, e, q⟩
        · refine Or.inr (fun j a b => ?_)
          by_cases g : j = n
          · rw [g]; exact e
          · exact q j a (by omega)
  rcases key (σ 4 3).toNat (by omega) with ⟨v, a, b, c⟩ | q
  · exact ⟨v, Or.inl ⟨a, by omega, c⟩⟩
  · exact ⟨-1, Or.inr ⟨rfl, fun j a b => q j a (by omega)⟩⟩
set_option maxRecDepth 100000 in
set_option maxHeartbeats 4000000 in
theorem am_X8_kindInHand {σ : zS} (hn5 : 0 ≤ σ 30 312 ∧ σ 30 312 ≤ 5) (hL : 0 ≤ σ 4 3 ∧ σ 4 3 ≤ 30) (hc : ∀ j : Int, 0 ≤ j → j < 5 → j < σ 30 312 → 0 ≤ σ 31 (1560 + j) ∧ σ 31 (1560 + j) ≤ 2000) : zAM 92 [.inr (.inr (0, 0))] σ (fun (v : Int) (u : zS) => σ = u ∧ ∃ w : Int, zplace σ (σ 32 1560) w ∧ (if σ 30 312 = 0 then 0 else if 1 < σ 30 312 ∧ σ 31 1561 - σ 31 1560 < 4 then 1 else if w < 0 then 2 else 3) = v) := by
  refine zam (by decide) (Nat.le_of_ble_eq_true rfl) ?_
  refine zwalk zmk_92 [] 5 ?_
  show (∃ Rc : Int → zS → Prop, zAM 35 [.inr (.inr (6, 0))] σ Rc ∧ ∀ (v1 : Int) (u1 : zS), zI v1 → Rc v1 u1 → ((¬ v1 = 0 → ((v1 ≤ (1 : Int) → (∃ Rc : Int → zS → Prop, zAM 37 [.inr (.inr (6, 0)), .inl (0 : Int)] u1 Rc ∧ ∀ (v2 : Int) (u2 : zS), zJ v2 → Rc v2 u2 → (∃ Rc : Int → zS → Prop, zAM 49 [.inr (.inr (4, 0)), .inr (.inl v2)] u2 Rc ∧ ∀ (v3 : Int) (u3 : zS), zI v3 → Rc v3 u3 → ((0 ≤ v3 → (σ = u3 ∧ ∃ w : Int, zplace σ (σ 32 1560) w ∧ (if σ 30 312 = 0 then 0 else if 1 < σ 30 312 ∧ σ 31 1561 - σ 31 1560 < 4 then 1 else if w < 0 then 2 else 3) = (3 : Int))) ∧ (v3 < 0 → (σ = u3 ∧ ∃ w : Int, zplace σ (σ 32 1560) w ∧ (if σ 30 312 = 0 then 0 else if 1 < σ 30 312 ∧ σ 31 1561 - σ 31 1560 < 4 then 1 else if w < 0 then 2 else 3) = (2 : Int))))))) ∧ ((1 : Int) < v1 → (∃ Rc : Int → zS → Prop, zAM 36 [.inr (.inr (6, 0)), .inl (1 : Int)] u1 Rc ∧ ∀ (v4 : Int) (u4 : zS), zI v4 → Rc v4 u4 → (∃ Rc : Int → zS → Prop, zAM 36 [.inr (.inr (6, 0)), .inl (0 : Int)] u4 Rc ∧ ∀ (v5 : Int) (u5 : zS), zI v5 → Rc v5 u5 → (zI (v4 - v5) ∧ (((4 : Int) ≤ (v4 - v5) → (∃ Rc : Int → zS → Prop, zAM 37 [.inr (.inr (6, 0)), .inl (0 : Int)] u5 Rc ∧ ∀ (v6 : Int) (u6 : zS), zJ v6 → Rc v6 u6 → (∃ Rc : Int → zS → Prop, zAM 49 [.inr (.inr (4, 0)), .inr (.inl v6)] u6 Rc ∧ ∀ (v7 : Int) (u7 : zS), zI v7 → Rc v7 u7 → ((0 ≤ v7 → (σ = u7 ∧ ∃ w : Int, zplace σ (σ 32 1560) w ∧ (if σ 30 312 = 0 then 0 else if 1 < σ 30 312 ∧ σ 31 1561 - σ 31 1560 < 4 then 1 else if w < 0 then 2 else 3) = (3 : Int))) ∧ (v7 < 0 → (σ = u7 ∧ ∃ w : Int, zplace σ (σ 32 1560) w ∧ (if σ 30 312 = 0 then 0 else if 1 < σ 30 312 ∧ σ 31 1561 - σ 31 1560 < 4 then 1 else if w < 0 then 2 else 3) = (2 : Int))))))) ∧ ((v4 - v5) < (4 : Int) → (σ = u5 ∧ ∃ w : Int, zplace σ (σ 32 1560) w ∧ (if σ 30 312 = 0 then 0 else if 1 < σ 30 312 ∧ σ 31 1561 - σ 31 1560 < 4 then 1 else if w < 0 then 2 else 3) = (1 : Int)))))))))) ∧ (v1 = 0 → (σ = u1 ∧ ∃ w : Int, zplace σ (σ 32 1560) w ∧ (if σ 30 312 = 0 then 0 else if 1 < σ 30 312 ∧ σ 31 1561 - σ 31 1560 < 4 then 1 else if w < 0 then 2 else 3) = (0 : Int)))))
  refine ⟨_, am_X4_told, ?_⟩
  intro v1 u1 hv1
  rintro ⟨rfl, rfl⟩
  obtain ⟨hv1a, hv1b⟩ := hv1
  refine ⟨?_, ?_⟩
  · intro h1
    refine ⟨?_, ?_⟩
    · intro h2
      refine ⟨_, am_X4_word (by omega), ?_⟩
      intro v2 u2 hv2
      rintro ⟨rfl, rfl⟩
      obtain ⟨hv2a, hv2b⟩ := hv2
      refine ⟨_, am_X7_placeOf (hL), ?_⟩
      intro v3 u3 hv3
      intro kv3
      obtain ⟨hv3a, hv3b⟩ := hv3
      obtain ⟨rfl, ewv3⟩ := kv3
      refine ⟨?_, ?_⟩
      · intro h3
        refine ⟨rfl, _, by assumption, ?_⟩
        rw [if_neg (by omega), if_neg (by (first | omega | (have h9 : (4 : Int) ≤ σ 31 (1560 + 1) - σ 31 (1560 + 0) := (by assumption); show ¬ (1 < σ 30 312 ∧ σ 31 (1560 + 1) - σ 31 (1560 + 0) < 4); omega))), if_neg (by omega)]
      · intro h4
        refine ⟨rfl, _, by assumption, ?_⟩
        rw [if_neg (by omega), if_neg (by (first | omega | (have h9 : (4 : Int) ≤ σ 31 (1560 + 1) - σ 31 (1560 + 0) := (by assumption); show ¬ (1 < σ 30 312 ∧ σ 31 (1560 + 1) - σ 31 (1560 + 0) < 4); omega))), if_pos (by omega)]
    · intro h5
      refine ⟨_, am_X4_cost (by omega), ?_⟩
      intro v4 u4 hv4
      rintro ⟨rfl, rfl⟩
      obtain ⟨hv4a, hv4b⟩ := hv4
      refine ⟨_, am_X4_cost (by omega), ?_⟩
      intro v5 u5 hv5
      rintro ⟨rfl, rfl⟩
      obtain ⟨hv5a, hv5b⟩ := hv5
      refine ⟨by ((have c0 := hc 0 (by omega) (by omega) (by omega); have c1 := hc 1 (by omega) (by omega) (by omega); exact ⟨by omega, by omega⟩)), ?_⟩
      refine ⟨?_, ?_⟩
      · intro h6
        refine ⟨_, am_X4_word (by omega), ?_⟩
        intro v6 u6 hv6
        rintro ⟨rfl, rfl⟩
        obtain ⟨hv6a, hv6b⟩ := hv6
        refine ⟨_, am_X7_placeOf (hL), ?_⟩
        intro v7 u7 hv7
        intro kv7
        obtain ⟨hv7a, hv7b⟩ := hv7
        obtain ⟨rfl, ewv7⟩ := kv7
        refine ⟨?_, ?_⟩
        · intro h7
          refine ⟨rfl, _, by assumption, ?_⟩
          rw [if_neg (by omega), if_neg (by (first | omega | (have h9 : (4 : Int) ≤ σ 31 (1560 + 1) - σ 31 (1560 + 0) := (by assumption); show ¬ (1 < σ 30 312 ∧ σ 31 (1560 + 1) - σ 31 (1560 + 0) < 4); omega))), if_neg (by omega)]
        · intro h8
          refine ⟨rfl, _, by assumption, ?_⟩
          rw [if_neg (by omega), if_neg (by (first | omega | (have h9 : (4 : Int) ≤ σ 31 (1560 + 1) - σ 31 (1560 + 0) := (by assumption); show ¬ (1 < σ 30 312 ∧ σ 31 (1560 + 1) - σ 31 (1560 + 0) < 4); omega))), if_pos (by omega)]
      · intro h9
        obtain ⟨w, hw⟩ := zplace_ex (x := σ 32 1560) hL.1
        exact ⟨rfl, w, hw, by rw [if_neg (by omega), if_pos ⟨by omega, by assumption⟩]⟩
  · intro h10
    obtain ⟨w, hw⟩ := zplace_ex (x := σ 32 1560) hL.1
    exact ⟨rfl, w, hw, if_pos (by omega)⟩
