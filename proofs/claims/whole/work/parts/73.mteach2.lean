set_option maxRecDepth 100000 in
set_option maxHeartbeats 4000000 in
theorem lp_mt120 {l : Nat} {i : Int} {w : Nat → Int} {m : Nat} {p : Int} {f : Int → Int → Int → Int} {σ : zS} {R : Int → zS → Prop} (hi : 0 ≤ i ∧ i < 40) (hw : zlet w m) (hm : m ≤ 12) (hp : 0 ≤ p ∧ p ≤ 14) (hb0 : 0 ≤ σ 45 i ∧ σ 45 i + p ≤ 40) (hs : ∀ j : Int, σ 45 i ≤ j → j < σ 45 i + p → 0 ≤ σ 42 j ∧ σ 42 j < 12) (hc47 : ∀ j : Int, 0 ≤ j → j < 49660 → 0 ≤ σ 47 j ∧ σ 47 j ≤ 999) (hfm : ∀ a k l : Int, 0 ≤ a → 1 ≤ k → k ≤ 3 → a + k ≤ p → 0 ≤ l → l < 26 → zmc σ l (σ 45 i + a) k = (if f a k l < 0 then 1000000000 else f a k l) ∧ -1 ≤ f a k l ∧ f a k l ≤ 100) (h53 : ∀ j : Int, 0 ≤ j → j < m → σ 53 j = w j.toNat) (h60 : ∀ x y : Int, 0 ≤ x → x ≤ m → 0 ≤ y → y ≤ p → σ 60 (15 * x + y) = zsp f w m p 1000000000 ((m : Int) - x).toNat y) (hfin : zsp f w m p 1000000000 m 0 < 1000000000) (hpp : σ 45 (i + 1) = σ 45 i + p) (h25 : σ 9 25 = (m : Int)) (hl : l < m) (K : zRuns 144 zX0 R 150 [some (.inr (.inr (9, 0))), some (.inl i), some (.inl (zat f w m p 1000000000 l)), some (.inl (l : Int)), some (.inl (zrwk f w m p 1000000000 l)), none] [] σ) : ∀ (n : Nat) (k : Int), k < (n : Int) → ((zrwk f w m p 1000000000 l) ≤ k ∧ k ≤ 3) → zRuns 144 zX0 (fun (v : Int) (u : zS) => R v u) 120 [some (.inr (.inr (9, 0))), some (.inl i), some (.inl (zat f w m p 1000000000 l)), some (.inl (l : Int)), some (.inl k), none] [] σ := by
  intro n
  induction n with
  | zero =>
    intro k hn k0
    exfalso
    have h9 := (zat_ok hp.1 hfin (k := l) (by omega)).2.2 hl
    omega
  | succ n ih =>
    intro k hn k0
    refine zwalk zmk_144 [(109, [true, true, true, true, false, false]), (120, [true, true, true, true, true, false]), (150, [true, true, true, true, true, false]), (178, [true, false, true, true, false, false]), (272, [true, false, false, true, false, false])] 3 ?_
    show (zI ((zat f w m p 1000000000 l) + k) ∧ (∃ Rc : Int → zS → Prop, zAM 117 [.inr (.inr (9, 0)), .inl i] σ Rc ∧ ∀ (v1 : Int) (u1 : zS), zI v1 → Rc v1 u1 → ((v1 < ((zat f w m p 1000000000 l) + k) → (zI (k + (-1 : Int)) ∧ zRuns 144 zX0 (fun (v : Int) (u : zS) => R v u) 120 [some (.inr (.inr (9, 0))), some (.inl i), some (.inl (zat f w m p 1000000000 l)), some (.inl (l : Int)), some (.inl (k + (-1 : Int))), none] [] u1)) ∧ (((zat f w m p 1000000000 l) + k) ≤ v1 → (∃ Rc : Int → zS → Prop, zAM 145 [.inr (.inr (9, 0)), .inl i, .inl (l : Int), .inl (zat f w m p 1000000000 l), .inl k] u1 Rc ∧ ∀ (v2 : Int) (u2 : zS), zI v2 → Rc v2 u2 → ((¬ v2 = 0 → zRuns 144 zX0 (fun (v : Int) (u : zS) => R v u) 150 [some (.inr (.inr (9, 0))), some (.inl i), some (.inl (zat f w m p 1000000000 l)), some (.inl (l : Int)), some (.inl k), none] [] u2) ∧ (v2 = 0 → (zI (k + (-1 : Int)) ∧ zRuns 144 zX0 (fun (v : Int) (u : zS) => R v u) 120 [some (.inr (.inr (9, 0))), some (.inl i), some (.inl (zat f w m p 1000000000 l)), some (.inl (l : Int)), some (.inl (k + (-1 : Int))), none] [] u2))))))))
    have hok := zat_ok hp.1 hfin (k := l) (by omega)
    have hrw := hok.2.2 hl
    refine ⟨by (first | exact ⟨by omega, by omega⟩ | (exfalso; omega)), ?_⟩
    refine ⟨_, am_X9_many (hi) (by omega) (by omega), ?_⟩
    intro v1 u1 hv1
    intro kv1
    obtain ⟨hv1a, hv1b⟩ := hv1
    obtain ⟨rfl, w4⟩ := kv1
    refine ⟨?_, ?_⟩
    · intro h1
      refine ⟨by (first | exact ⟨by omega, by omega⟩ | (exfalso; omega)), ?_⟩
      refine ih (k + -1) (by omega) ⟨?_, by omega⟩
      omega
    · intro h2
      refine ⟨_, am_X9_isBest (w := w) (m := m) (p := p) (f := f) (hi) (hw) (hm) (hp) (hb0) (hs) (hc47) (hfm) (h53) (h60) (by omega) (⟨hok.1.1, by omega, by omega, by omega⟩) (by rw [show ((m : Int) - (l : Int)).toNat = m - l by omega]; exact hok.2.1), ?_⟩
      intro v2 u2 hv2
      rintro ⟨rfl, (⟨rfl, cv2⟩ | ⟨rfl, cv2⟩)⟩
      · refine ⟨?_, ?_⟩
        · intro _
          have e : k = (zrwk f w m p 1000000000 l) := by
            by_cases g : k = (zrwk f w m p 1000000000 l)
            · exact g
            · have h8 := hrw.2.2.2.2 k (by omega) k0.2 (by omega)
              rw [show ((m : Int) - (l : Int)).toNat = m - l by omega] at cv2
              exact absurd cv2 h8
          rw [e]
          exact K
        · exact fun h => absurd h (by decide)
      · refine ⟨?_, ?_⟩
        · exact fun h => absurd h (by decide)
        · intro _
          refine ⟨by (first | exact ⟨by omega, by omega⟩ | (exfalso; omega)), ?_⟩
          refine ih (k + -1) (by omega) ⟨?_, by omega⟩
          by_cases g : (zrwk f w m p 1000000000 l) = k
          · have h8 := hrw.2.2.1
            rw [show ((m : Int) - (l : Int)).toNat = m - l by omega] at cv2
            rw [g] at h8
            exact absurd h8 cv2
          · omega
set_option maxRecDepth 100000 in
set_option maxHeartbeats 4000000 in
theorem lp_mt150 {i a k : Int} {l : Nat} {t : zS} {R : Int → zS → Prop} (hl : l < 12) (ha : 0 ≤ a ∧ a ≤ 14 ∧ 0 ≤ k ∧ k ≤ 3) (K : zRuns 144 zX0 R 109 [some (.inr (.inr (9, 0))), some (.inl i), some (.inl (a + k)), some (.inl ((l + 1 : Nat) : Int)), none, none] [] (zup t 64 (l : Int) k)) : zRuns 144 zX0 R 150 [some (.inr (.inr (9, 0))), some (.inl i), some (.inl a), some (.inl (l : Int)), some (.inl k), none] [] t := by
  refine zwalk zmk_144 [(109, [true, true, true, true, false, false]), (120, [true, true, true, true, true, false]), (150, [true, true, true, true, true, false]), (178, [true, false, true, true, false, false]), (272, [true, false, false, true, false, false])] 2 ?_
  show ((0 ≤ (l : Int) ∧ (l : Int) < (12 : Int)) ∧ (zI (a + k) ∧ (zI ((l : Int) + (1 : Int)) ∧ zRuns 144 zX0 (fun (v : Int) (u : zS) => R v u) 109 [some (.inr (.inr (9, 0))), some (.inl i), some (.inl (a + k)), some (.inl ((l : Int) + (1 : Int))), none, none] [] (zup t 64 (l : Int) k))))
  refine ⟨by (first | exact ⟨by omega, by omega⟩ | (exfalso; omega)), ?_⟩
  refine ⟨by (first | exact ⟨by omega, by omega⟩ | (exfalso; omega)), ?_⟩
  refine ⟨by (first | exact ⟨by omega, by omega⟩ | (exfalso; omega)), ?_⟩
  have e : ((l + 1 : Nat) : Int) = (l : Int) + 1 := by omega
  rw [e] at K
  exact K
set_option maxRecDepth 100000 in
set_option maxHeartbeats 4000000 in
theorem lp_mt109 {i : Int} {w : Nat → Int} {m : Nat} {p : Int} {f : Int → Int → Int → Int} {σ : zS} {R : Int → zS → Prop} (hi : 0 ≤ i ∧ i < 40) (hw : zlet w m) (hm : m ≤ 12) (hp : 0 ≤ p ∧ p ≤ 14) (hb0 : 0 ≤ σ 45 i ∧ σ 45 i + p ≤ 40) (hs : ∀ j : Int, σ 45 i ≤ j → j < σ 45 i + p → 0 ≤ σ 42 j ∧ σ 42 j < 12) (hc47 : ∀ j : Int, 0 ≤ j → j < 49660 → 0 ≤ σ 47 j ∧ σ 47 j ≤ 999) (hfm : ∀ a k l : Int, 0 ≤ a → 1 ≤ k → k ≤ 3 → a + k ≤ p → 0 ≤ l → l < 26 → zmc σ l (σ 45 i + a) k = (if f a k l < 0 then 1000000000 else f a k l) ∧ -1 ≤ f a k l ∧ f a k l ≤ 100) (h53 : ∀ j : Int, 0 ≤ j → j < m → σ 53 j = w j.toNat) (h60 : ∀ x y : Int, 0 ≤ x → x ≤ m → 0 ≤ y → y ≤ p → σ 60 (15 * x + y) = zsp f w m p 1000000000 ((m : Int) - x).toNat y) (hfin : zsp f w m p 1000000000 m 0 < 1000000000) (hpp : σ 45 (i + 1) = σ 45 i + p) (h25 : σ 9 25 = (m : Int)) (K : ∀ t : zS, zfr [64] σ t → (∀ j : Nat, j < m → t 64 (j : Int) = zrwk f w m p 1000000000 j) → zRuns 144 zX0 R 178 [some (.inr (.inr (9, 0))), none, some (.inl (σ 45 i)), some (.inl 0), none, none] [] t) : ∀ (n : Nat) (l : Nat) (t : zS), (m : Int) + 1 - (l : Int) < (n : Int) → (l ≤ m) → (zfr [64] σ t) → (∀ j : Nat, j < l → t 64 (j : Int) = zrwk f w m p 1000000000 j) → zRuns 144 zX0 (fun (v : Int) (u : zS) => R v u) 109 [some (.inr (.inr (9, 0))), some (.inl i), some (.inl (zat f w m p 1000000000 l)), some (.inl (l : Int)), none, none] [] t := by
  intro n
  induction n with
  | zero =>
    intro l t hn l0 hT hd
    exfalso
    omega
  | succ n ih =>
    intro l t hn l0 hT hd
    refine zwalk zmk_144 [(109, [true, true, true, true, false, false]), (120, [true, true, true, true, true, false]), (150, [true, true, true, true, true, false]), (178, [true, false, true, true, false, false]), (272, [true, false, false, true, false, false])] 3 ?_
    show (((t 9 (25 : Int)) ≤ (l : Int) → ((0 ≤ i ∧ i < (41 : Int)) ∧ zRuns 144 zX0 (fun (v : Int) (u : zS) => R v u) 178 [some (.inr (.inr (9, 0))), none, some (.inl (t 45 i)), some (.inl (0 : Int)), none, none] [] t)) ∧ ((l : Int) < (t 9 (25 : Int)) → zRuns 144 zX0 (fun (v : Int) (u : zS) => R v u) 120 [some (.inr (.inr (9, 0))), some (.inl i), some (.inl (zat f w m p 1000000000 l)), some (.inl (l : Int)), some (.inl (3 : Int)), none] [] t))
    have hok := zat_ok hp.1 hfin (k := l) l0
    have e9 : t 9 = σ 9 := hT 9 (by decide)
    have e25 : t 9 25 = (m : Int) := by rw [e9]; exact h25
    have e45 : t 45 = σ 45 := hT 45 (by decide)
    have e42 : t 42 = σ 42 := hT 42 (by decide)
    have e43 : t 43 = σ 43 := hT 43 (by decide)
    have e47 : t 47 = σ 47 := hT 47 (by decide)
    have e53 : t 53 = σ 53 := hT 53 (by decide)
    have e60 : t 60 = σ 60 := hT 60 (by decide)
    refine ⟨?_, ?_⟩
    · intro h1
      refine ⟨by (first | exact ⟨by omega, by omega⟩ | (exfalso; omega)), ?_⟩
      rw [e45]
      exact K t hT (fun j hj => hd j (by omega))
    · intro h2
      have hrw := hok.2.2 (by omega)
      refine lp_mt120 (σ := t) hi hw hm hp (by rw [e45]; exact hb0) (by rw [e45, e42]; exact hs) (by rw [e47]; exact hc47) (fun a k l a0 k0 k1 ak l0 l1 => by rw [e45, zmc_fr e42 e43 e47]; exact hfm a k l a0 k0 k1 ak l0 l1) (by rw [e53]; exact h53) (by rw [e60]; exact h60) hfin (by rw [e45]; exact hpp) e25 (by omega) ?_ 4 3 (by omega) ⟨by omega, by omega⟩
      refine lp_mt150 (by omega) ⟨by omega, by omega, by omega, by omega⟩ ?_
      rw [← zat_s]
      refine ih (l + 1) _ (by omega) (by omega) (hT.up (c := 64) (by decide)) (fun j hj => ?_)
      by_cases e : j = l
      · rw [e, zup_at, if_pos rfl]
      · rw [zup_at, if_neg (by omega)]; exact hd j (by omega)
set_option maxRecDepth 100000 in
set_option maxHeartbeats 4000000 in
theorem lp_mt272 {w : Nat → Int} {at_ : Nat → Int} {row : Nat → Int} {m : Nat} {b : Int} {σ : zS} (hw : zlet w m) (hm : 1 ≤ m ∧ m ≤ 12) (h25 : σ 9 25 = (m : Int)) (h53 : ∀ j : Int, 0 ≤ j → j < m → σ 53 j = w j.toNat) (hc47 : ∀ j : Int, 0 ≤ j → j < 49660 → 0 ≤ σ 47 j ∧ σ 47 j ≤ 999) (h20 : 0 < σ 9 20) (hu : 0 ≤ σ 9 17 ∧ σ 9 17 + 2 * (m : Int) ≤ 12000) (hb : 0 ≤ b) (hRr : ∀ k : Nat, k < m → (1 ≤ row k ∧ row k ≤ 3) ∧ (0 ≤ at_ k ∧ b + at_ k + row k ≤ 40) ∧ at_ (k + 1) = at_ k + row k ∧ ∀ j : Int, b + at_ k ≤ j → j < b + at_ k + row k → 0 ≤ σ 42 j ∧ σ 42 j < 12) (h64 : ∀ k : Nat, k < m → σ 64 (k : Int) = row k) (ha0 : at_ 0 = 0) : ∀ (n : Nat) (k : Nat) (t : zS), (m : Int) + 1 - (k : Int) < (n : Int) → (k ≤ m ∧ 1 ≤ k) → (zLG 47 48 49 9 17 49660 σ t ((m : Int) + (k : Int))) → (∀ x : Int, 0 ≤ x → x < 49660 → t 47 x = min 999 (σ 47 x + zoN (fun j : Nat => zsq σ (w j) (b + at_ j) (row j)) x m + zoQ (fun j : Nat => 48984 + 26 * w (j - 1) + w j) x k)) → zRuns 144 zX0 (fun (v : Int) (u : zS) => ∃ t : zS, zLG 47 48 49 9 17 49660 σ t (2 * (m : Int)) ∧ (∀ x : Int, 0 ≤ x → x < 49660 → t 47 x = min 999 (σ 47 x + zoN (fun j : Nat => zsq σ (w j) (b + at_ j) (row j)) x m + zoQ (fun j : Nat => 48984 + 26 * w (j - 1) + w j) x m)) ∧ zup (zfill t 55 0 40 0) 9 25 0 = u ∧ (m : Int) = v) 272 [some (.inr (.inr (9, 0))), none, none, some (.inl (k : Int)), none, none] [] t := by
  intro n
  induction n with
  | zero =>
    intro k t hn k0 hL hT
    exfalso
    omega
  | succ n ih =>
    intro k t hn k0 hL hT
    refine zwalk zmk_144 [(109, [true, true, true, true, false, false]), (120, [true, true, true, true, true, false]), (150, [true, true, true, true, true, false]), (178, [true, false, true, true, false, false]), (272, [true, false, false, true, false, false])] 3 ?_
    show (((t 9 (25 : Int)) ≤ (k : Int) → (∃ Rc : Int → zS → Prop, zAM 111 [.inr (.inr (9, 0))] t Rc ∧ ∀ (u1 : zS), Rc 0 u1 → (∃ t : zS, zLG 47 48 49 9 17 49660 σ t (2 * (m : Int)) ∧ (∀ x : Int, 0 ≤ x → x < 49660 → t 47 x = min 999 (σ 47 x + zoN (fun j : Nat => zsq σ (w j) (b + at_ j) (row j)) x m + zoQ (fun j : Nat => 48984 + 26 * w (j - 1) + w j) x m)) ∧ zup (zfill t 55 0 40 0) 9 25 0 = (zup u1 9 (25 : Int) (0 : Int)) ∧ (m : Int) = (u1 9 (25 : Int))))) ∧ ((k : Int) < (t 9 (25 : Int)) → (zI ((k : Int) - (1 : Int)) ∧ ((0 ≤ ((k : Int) - (1 : Int)) ∧ ((k : Int) - (1 : Int)) < (12 : Int)) ∧ (zI ((26 : Int) * (t 53 ((k : Int) - (1 : Int)))) ∧ (zI ((48984 : Int) + ((26 : Int) * (t 53 ((k : Int) - (1 : Int))))) ∧ ((0 ≤ (k : Int) ∧ (k : Int) < (12 : Int)) ∧ (zI (((48984 : Int) + ((26 : Int) * (t 53 ((k : Int) - (1 : Int))))) + (t 53 (k : Int))) ∧ (∃ Rc : Int → zS → Prop, zAM 124 [.inr (.inr (9, 0)), .inl (((48984 : Int) + ((26 : Int) * (t 53 ((k : Int) - (1 : Int))))) + (t 53 (k : Int))), .inl (1 : Int)] t Rc ∧ ∀ (v2 : Int) (u2 : zS), zI v2 → Rc v2 u2 → (zI ((k : Int) + (1 : Int)) ∧ zRuns 144 zX0 (fun (v : Int) (u : zS) => ∃ t : zS, zLG 47 48 49 9 17 49660 σ t (2 * (m : Int)) ∧ (∀ x : Int, 0 ≤ x → x < 49660 → t 47 x = min 999 (σ 47 x + zoN (fun j : Nat => zsq σ (w j) (b + at_ j) (row j)) x m + zoQ (fun j : Nat => 48984 + 26 * w (j - 1) + w j) x m)) ∧ zup (zfill t 55 0 40 0) 9 25 0 = u ∧ (m : Int) = v) 272 [some (.inr (.inr (9, 0))), none, none, some (.inl ((k : Int) + (1 : Int))), none, none] [] u2))))))))))
    have e9 : ∀ j : Int, ¬ j = 17 → t 9 j = σ 9 j := hL.2.1
    have e25 : t 9 25 = (m : Int) := by rw [e9 25 (by decide)]; exact h25
    have e20 : t 9 20 = σ 9 20 := e9 20 (by decide)
    have e53 : t 53 = σ 53 := hL.1 53 (by decide)
    have e42 : t 42 = σ 42 := hL.1 42 (by decide)
    have e64 : t 64 = σ 64 := hL.1 64 (by decide)
    have hu6 := hL.2.2.1
    have hkm : (k : Int) < t 9 25 → k < m := fun q => by rw [e25] at q; omega
    have hwv : k < m → (0 ≤ w k ∧ w k < 26) ∧ t 53 (k : Int) = w k ∧ (0 < k → (0 ≤ w (k - 1) ∧ w (k - 1) < 26) ∧ t 53 ((k : Int) - 1) = w (k - 1)) := fun q => by
      refine ⟨hw k q, by rw [e53, h53 (k : Int) (by omega) (by omega), Int.toNat_natCast], fun q2 => ⟨hw (k - 1) (by omega), ?_⟩⟩
      rw [e53, h53 ((k : Int) - 1) (by omega) (by omega), show ((k : Int) - 1).toNat = k - 1 by omega]
    refine ⟨?_, ?_⟩
    · intro h1
      refine ⟨_, am_X9_forget, ?_⟩
      intro u1
      intro kv1
      obtain rfl := kv1
      have ek : k = m := by omega
      rw [ek] at hL hT
      refine ⟨t, hL.le (by omega), hT, rfl, ?_⟩
      show _ = (if _ then _ else t 9 25)
      rw [if_neg (fun z => absurd z.1 (by decide))]
      exact e25.symm
    · intro h2
      refine ⟨by ((have q8 := hkm (by assumption); have q7 := hw (k - 1) (by omega); have q6 := hwv q8; exact ⟨by omega, by omega⟩)), ?_⟩
      refine ⟨by ((first | omega | (have q8 := hkm (by assumption); omega))), ?_⟩
      refine ⟨by ((have q8 := hkm (by assumption); have q7 := hw (k - 1) (by omega); have q6 := hwv q8; exact ⟨by omega, by omega⟩)), ?_⟩
      refine ⟨by ((have q8 := hkm (by assumption); have q7 := hw (k - 1) (by omega); have q6 := hwv q8; exact ⟨by omega, by omega⟩)), ?_⟩
      refine ⟨by ((first | omega | (have q8 := hkm (by assumption); omega))), ?_⟩
      refine ⟨by ((have q8 := hkm (by assumption); have q7 := hw (k - 1) (by omega); have q6 := hwv q8; exact ⟨by omega, by omega⟩)), ?_⟩
      have q8 := hkm (by assumption)
      have q6 := hwv q8
      have q5 := q6.2.2 (by omega)
      rw [q5.2, q6.2.1]
      have q4 := hT (48984 + 26 * w (k - 1) + w k) (by omega) (by omega)
      have q3 := zoN_r (ix := (fun j : Nat => zsq σ (w j) (b + at_ j) (row j))) (x := 48984 + 26 * w (k - 1) + w k) (n := m)
      have q2 := zoQ_r (ix := (fun j : Nat => 48984 + 26 * w (j - 1) + w j)) (x := 48984 + 26 * w (k - 1) + w k) (n := k)
      have q1 := hc47 (48984 + 26 * w (k - 1) + w k) (by omega) (by omega)
      refine ⟨_, am_X9_raise (by omega) (by omega) (by omega) (by omega), ?_⟩
      intro v2 u2 hv2
      intro kv2
      obtain ⟨hv2a, hv2b⟩ := hv2
      have eu : zrsM t (48984 + 26 * w (k - 1) + w k) 1 = u2 := kv2.1
      have hlg := zrsM_log (σ := t) (s := 48984 + 26 * w (k - 1) + w k) (n := 1) (by omega) (by omega)
      have hgg := fun x => zrsM_g (σ := t) (s := 48984 + 26 * w (k - 1) + w k) (n := 1) (x := x)
      rw [eu] at hlg hgg
      have hL2 := hL.trans hlg
      refine ⟨by ((have q8 := hkm (by assumption); have q7 := hw (k - 1) (by omega); have q6 := hwv q8; exact ⟨by omega, by omega⟩)), ?_⟩
      have hI := ih (k + 1) u2 (by omega) (by omega) (hL2.le (by omega)) (fun x x0 x1 => ?_)
      · have ec : ((k + 1 : Nat) : Int) = (k : Int) + 1 := by omega
        rw [ec] at hI
        exact hI
      · have p4 := hT x x0 x1
        have p3 := zoN_r (ix := (fun j : Nat => zsq σ (w j) (b + at_ j) (row j))) (x := x) (n := m)
        have p2 := zoQ_r (ix := (fun j : Nat => 48984 + 26 * w (j - 1) + w j)) (x := x) (n := k)
        have p1 := hc47 x x0 x1
        rw [hgg]
        simp only [zoQ]
        by_cases e : x = 48984 + 26 * w (k - 1) + w k
        · rw [if_pos e, if_pos ⟨by omega, e.symm⟩, ← e]
          omega
        · rw [if_neg e, if_neg (fun z => e z.2.symm)]
          omega
set_option maxRecDepth 100000 in
set_option maxHeartbeats 4000000 in
theorem lp_mt178 {w : Nat → Int} {at_ : Nat → Int} {row : Nat → Int} {m : Nat} {b : Int} {σ : zS} (hw : zlet w m) (hm : 1 ≤ m ∧ m ≤ 12) (h25 : σ 9 25 = (m : Int)) (h53 : ∀ j : Int, 0 ≤ j → j < m → σ 53 j = w j.toNat) (hc47 : ∀ j : Int, 0 ≤ j → j < 49660 → 0 ≤ σ 47 j ∧ σ 47 j ≤ 999) (h20 : 0 < σ 9 20) (hu : 0 ≤ σ 9 17 ∧ σ 9 17 + 2 * (m : Int) ≤ 12000) (hb : 0 ≤ b) (hRr : ∀ k : Nat, k < m → (1 ≤ row k ∧ row k ≤ 3) ∧ (0 ≤ at_ k ∧ b + at_ k + row k ≤ 40) ∧ at_ (k + 1) = at_ k + row k ∧ ∀ j : Int, b + at_ k ≤ j → j < b + at_ k + row k → 0 ≤ σ 42 j ∧ σ 42 j < 12) (h64 : ∀ k : Nat, k < m → σ 64 (k : Int) = row k) (ha0 : at_ 0 = 0) : ∀ (n : Nat) (k : Nat) (t : zS), (m : Int) + 1 - (k : Int) < (n : Int) → (k ≤ m) → (zLG 47 48 49 9 17 49660 σ t (k : Int)) → (∀ x : Int, 0 ≤ x → x < 49660 → t 47 x = min 999 (σ 47 x + zoN (fun j : Nat => zsq σ (w j) (b + at_ j) (row j)) x k)) → zRuns 144 zX0 (fun (v : Int) (u : zS) => ∃ t : zS, zLG 47 48 49 9 17 49660 σ t (2 * (m : Int)) ∧ (∀ x : Int, 0 ≤ x → x < 49660 → t 47 x = min 999 (σ 47 x + zoN (fun j : Nat => zsq σ (w j) (b + at_ j) (row j)) x m + zoQ (fun j : Nat => 48984 + 26 * w (j - 1) + w j) x m)) ∧ zup (zfill t 55 0 40 0) 9 25 0 = u ∧ (m : Int) = v) 178 [some (.inr (.inr (9, 0))), none, some (.inl (b + at_ k)), some (.inl (k : Int)), none, none] [] t := by
  intro n
  induction n with
  | zero =>
    intro k t hn k0 hL hT
    exfalso
    omega
  | succ n ih =>
    intro k t hn k0 hL hT
    refine zwalk zmk_144 [(109, [true, true, true, true, false, false]), (120, [true, true, true, true, true, false]), (150, [true, true, true, true, true, false]), (178, [true, false, true, true, false, false]), (272, [true, false, false, true, false, false])] 4 ?_
    show (((t 9 (25 : Int)) ≤ (k : Int) → zRuns 144 zX0 (fun (v : Int) (u : zS) => ∃ t : zS, zLG 47 48 49 9 17 49660 σ t (2 * (m : Int)) ∧ (∀ x : Int, 0 ≤ x → x < 49660 → t 47 x = min 999 (σ 47 x + zoN (fun j : Nat => zsq σ (w j) (b + at_ j) (row j)) x m + zoQ (fun j : Nat => 48984 + 26 * w (j - 1) + w j) x m)) ∧ zup (zfill t 55 0 40 0) 9 25 0 = u ∧ (m : Int) = v) 272 [some (.inr (.inr (9, 0))), none, none, some (.inl (1 : Int)), none, none] [] t) ∧ ((k : Int) < (t 9 (25 : Int)) → ((0 ≤ (k : Int) ∧ (k : Int) < (12 : Int)) ∧ ((0 ≤ (k : Int) ∧ (k : Int) < (12 : Int)) ∧ (zI ((1884 : Int) * (t 53 (k : Int))) ∧ ((0 ≤ (b + at_ k) ∧ (b + at_ k) < (40 : Int)) ∧ (((t 64 (k : Int)) ≤ (1 : Int) → (((t 64 (k : Int)) ≤ (2 : Int) → (∃ Rc : Int → zS → Prop, zAM 122 [.inl (t 64 (k : Int)), .inl (t 42 (b + at_ k)), .inl (0 : Int), .inl (0 : Int)] t Rc ∧ ∀ (v1 : Int) (u1 : zS), zI v1 → Rc v1 u1 → (zI (((1884 : Int) * (t 53 (k : Int))) + v1) ∧ (∃ Rc : Int → zS → Prop, zAM 124 [.inr (.inr (9, 0)), .inl (((1884 : Int) * (t 53 (k : Int))) + v1), .inl (1 : Int)] u1 Rc ∧ ∀ (v2 : Int) (u2 : zS), zI v2 → Rc v2 u2 → (zI ((b + at_ k) + (t 64 (k : Int))) ∧ (zI ((k : Int) + (1 : Int)) ∧ zRuns 144 zX0 (fun (v : Int) (u : zS) => ∃ t : zS, zLG 47 48 49 9 17 49660 σ t (2 * (m : Int)) ∧ (∀ x : Int, 0 ≤ x → x < 49660 → t 47 x = min 999 (σ 47 x + zoN (fun j : Nat => zsq σ (w j) (b + at_ j) (row j)) x m + zoQ (fun j : Nat => 48984 + 26 * w (j - 1) + w j) x m)) ∧ zup (zfill t 55 0 40 0) 9 25 0 = u ∧ (m : Int) = v) 178 [some (.inr (.inr (9, 0))), none, some (.inl ((b + at_ k) + (t 64 (k : Int)))), some (.inl ((k : Int) + (1 : Int))), none, none] [] u2)))))) ∧ ((2 : Int) < (t 64 (k : Int)) → (zI ((b + at_ k) + (2 : Int)) ∧ ((0 ≤ ((b + at_ k) + (2 : Int)) ∧ ((b + at_ k) + (2 : Int)) < (40 : Int)) ∧ (∃ Rc : Int → zS → Prop, zAM 122 [.inl (t 64 (k : Int)), .inl (t 42 (b + at_ k)), .inl (0 : Int), .inl (t 42 ((b + at_ k) + (2 : Int)))] t Rc ∧ ∀ (v3 : Int) (u3 : zS), zI v3 → Rc v3 u3 → (zI (((1884 : Int) * (t 53 (k : Int))) + v3) ∧ (∃ Rc : Int → zS → Prop, zAM 124 [.inr (.inr (9, 0)), .inl (((1884 : Int) * (t 53 (k : Int))) + v3), .inl (1 : Int)] u3 Rc ∧ ∀ (v4 : Int) (u4 : zS), zI v4 → Rc v4 u4 → (zI ((b + at_ k) + (t 64 (k : Int))) ∧ (zI ((k : Int) + (1 : Int)) ∧ zRuns 144 zX0 (fun (v : Int) (u : zS) => ∃ t : zS, zLG 47 48 49 9 17 49660 σ t (2 * (m : Int)) ∧ (∀ x : Int, 0 ≤ x → x < 49660 → t 47 x = min 999 (σ 47 x + zoN (fun j : Nat => zsq σ (w j) (b + at_ j) (row j)) x m + zoQ (fun j : Nat => 48984 + 26 * w (j - 1) + w j) x m)) ∧ zup (zfill t 55 0 40 0) 9 25 0 = u ∧ (m : Int) = v) 178 [some (.inr (.inr (9, 0))), none, some (.inl ((b + at_ k) + (t 64 (k : Int)))), some (.inl ((k : Int) + (1 : Int))), none, none] [] u4)))))))))) ∧ ((1 : Int) < (t 64 (k : Int)) → (zI ((b + at_ k) + (1 : Int)) ∧ ((0 ≤ ((b + at_ k) + (1 : Int)) ∧ ((b + at_ k) + (1 : Int)) < (40 : Int)) ∧ (((t 64 (k : Int)) ≤ (2 : Int) → (∃ Rc : Int → zS → Prop, zAM 122 [.inl (t 64 (k : Int)), .inl (t 42 (b + at_ k)), .inl (t 42 ((b + at_ k) + (1 : Int))), .inl (0 : Int)] t Rc ∧ ∀ (v5 : Int) (u5 : zS), zI v5 → Rc v5 u5 → (zI (((1884 : Int) * (t 53 (k : Int))) + v5) ∧ (∃ Rc : Int → zS → Prop, zAM 124 [.inr (.inr (9, 0)), .inl (((1884 : Int) * (t 53 (k : Int))) + v5), .inl (1 : Int)] u5 Rc ∧ ∀ (v6 : Int) (u6 : zS), zI v6 → Rc v6 u6 → (zI ((b + at_ k) + (t 64 (k : Int))) ∧ (zI ((k : Int) + (1 : Int)) ∧ zRuns 144 zX0 (fun (v : Int) (u : zS) => ∃ t : zS, zLG 47 48 49 9 17 49660 σ t (2 * (m : Int)) ∧ (∀ x : Int, 0 ≤ x → x < 49660 → t 47 x = min 999 (σ 47 x + zoN (fun j : Nat => zsq σ (w j) (b + at_ j) (row j)) x m + zoQ (fun j : Nat => 48984 + 26 * w (j - 1) + w j) x m)) ∧ zup (zfill t 55 0 40 0) 9 25 0 = u ∧ (m : Int) = v) 178 [some (.inr (.inr (9, 0))), none, some (.inl ((b + at_ k) + (t 64 (k : Int)))), some (.inl ((k : Int) + (1 : Int))), none, none] [] u6)))))) ∧ ((2 : Int) < (t 64 (k : Int)) → (zI ((b + at_ k) + (2 : Int)) ∧ ((0 ≤ ((b + at_ k) + (2 : Int)) ∧ ((b + at_ k) + (2 : Int)) < (40 : Int)) ∧ (∃ Rc : Int → zS → Prop, zAM 122 [.inl (t 64 (k : Int)), .inl (t 42 (b + at_ k)), .inl (t 42 ((b + at_ k) + (1 : Int))), .inl (t 42 ((b + at_ k) + (2 : Int)))] t Rc ∧ ∀ (v7 : Int) (u7 : zS), zI v7 → Rc v7 u7 → (zI (((1884 : Int) * (t 53 (k : Int))) + v7) ∧ (∃ Rc : Int → zS → Prop, zAM 124 [.inr (.inr (9, 0)), .inl (((1884 : Int) * (t 53 (k : Int))) + v7), .inl (1 : Int)] u7 Rc ∧ ∀ (v8 : Int) (u8 : zS), zI v8 → Rc v8 u8 → (zI ((b + at_ k) + (t 64 (k : Int))) ∧ (zI ((k : Int) + (1 : Int)) ∧ zRuns 144 zX0 (fun (v : Int) (u : zS) => ∃ t : zS, zLG 47 48 49 9 17 49660 σ t (2 * (m : Int)) ∧ (∀ x : Int, 0 ≤ x → x < 49660 → t 47 x = min 999 (σ 47 x + zoN (fun j : Nat => zsq σ (w j) (b + at_ j) (row j)) x m + zoQ (fun j : Nat => 48984 + 26 * w (j - 1) + w j) x m)) ∧ zup (zfill t 55 0 40 0) 9 25 0 = u ∧ (m : Int) = v) 178 [some (.inr (.inr (9, 0))), none, some (.inl ((b + at_ k) + (t 64 (k : Int)))), some (.inl ((k : Int) + (1 : Int))), none, none] [] u8)))))))))))))))))))
    have e9 : ∀ j : Int, ¬ j = 17 → t 9 j = σ 9 j := hL.2.1
    have e25 : t 9 25 = (m : Int) := by rw [e9 25 (by decide)]; exact h25
    have e20 : t 9 20 = σ 9 20 := e9 20 (by decide)
    have e53 : t 53 = σ 53 := hL.1 53 (by decide)
    have e42 : t 42 = σ 42 := hL.1 42 (by decide)
    have e64 : t 64 = σ 64 := hL.1 64 (by decide)
    have hu6 := hL.2.2.1
    have hkm : (k : Int) < t 9 25 → k < m := fun q => by rw [e25] at q; omega
    have hwv : k < m → (0 ≤ w k ∧ w k < 26) ∧ t 53 (k : Int) = w k ∧ t 64 (k : Int) = row k ∧ t 42 = σ 42 := fun q => ⟨hw k q, by rw [e53, h53 (k : Int) (by omega) (by omega), Int.toNat_natCast], by rw [e64]; exact h64 k q, e42⟩
    refine ⟨?_, ?_⟩
    · intro h1
      have ek : k = m := by omega
      subst ek
      refine lp_mt272 hw hm h25 h53 hc47 h20 hu hb hRr h64 ha0 (k + 2) 1 t (by omega) ⟨by omega, by omega⟩ (hL.le (by omega)) (fun x x0 x1 => ?_)
      rw [hT x x0 x1]
      simp only [zoQ]
      rw [if_neg (by omega), Int.add_zero, Int.add_zero]
    · intro h2
      refine ⟨by ((have q8 := hkm (by assumption); have q7 := hRr k q8; omega)), ?_⟩
      refine ⟨by ((have q8 := hkm (by assumption); have q7 := hRr k q8; omega)), ?_⟩
      refine ⟨by ((have q8 := hkm (by assumption); have q7 := hRr k q8; have q6 := hwv q8; exact ⟨by omega, by omega⟩)), ?_⟩
      refine ⟨by ((have q8 := hkm (by assumption); have q7 := hRr k q8; omega)), ?_⟩
      refine ⟨?_, ?_⟩
      · intro h3
        have q8h3 := hkm (by assumption)
        rw [(hwv q8h3).2.2.1] at h3
        refine ⟨?_, ?_⟩
        · intro h4
          have q8h4 := hkm (by assumption)
          rw [(hwv q8h4).2.2.1] at h4
          have q8 := hkm (by assumption)
          have q7 := hRr k q8
          have q6 := hwv q8
          have s0 := q7.2.2.2 (b + at_ k) (by omega) (by omega)
          have s1 : 1 < row k → 0 ≤ σ 42 (b + at_ k + 1) ∧ σ 42 (b + at_ k + 1) < 12 := fun q => q7.2.2.2 _ (by omega) (by omega)
          have s2 : 2 < row k → 0 ≤ σ 42 (b + at_ k + 2) ∧ σ 42 (b + at_ k + 2) < 12 := fun q => q7.2.2.2 _ (by omega) (by omega)
          rw [q6.2.1, q6.2.2.1]
          refine ⟨_, am_X9_shapes (by rw [e42]; omega), ?_⟩
          intro v1 u1 hv1
          rintro ⟨rfl, ev1⟩
          obtain ⟨hv1a, hv1b⟩ := hv1
          have es : 1884 * w k + v1 = zsq σ (w k) (b + at_ k) (row k) := by
            rw [← ev1, e42]
            unfold zsq
            split <;> (try split) <;> first | rfl | (exfalso; omega)
          have hzr := zsh_r (m := row k) (a := σ 42 (b + at_ k)) (b := if 1 < row k then σ 42 (b + at_ k + 1) else 0) (c := if 2 < row k then σ 42 (b + at_ k + 2) else 0) ⟨by omega, by omega, by omega, by omega, by (split <;> omega), by (split <;> omega)⟩
          have hzv : 0 ≤ v1 ∧ v1 < 1884 := by unfold zsq at es; omega
          refine ⟨by ((have q8 := hkm (by assumption); have q7 := hRr k q8; have q6 := hwv q8; exact ⟨by omega, by omega⟩)), ?_⟩
          have q4 := hT (1884 * w k + v1) (by omega) (by omega)
          have q3 := zoN_r (ix := (fun j : Nat => zsq σ (w j) (b + at_ j) (row j))) (x := 1884 * w k + v1) (n := k)
          have q1 := hc47 (1884 * w k + v1) (by omega) (by omega)
          refine ⟨_, am_X9_raise (by omega) (by omega) (by omega) (by omega), ?_⟩
          intro v2 u2 hv2
          intro kv2
          obtain ⟨hv2a, hv2b⟩ := hv2
          have eu : zrsM t _ 1 = u2 := kv2.1
          rw [es] at eu
          have hlg := zrsM_log (σ := t) (s := zsq σ (w k) (b + at_ k) (row k)) (n := 1) (by omega) (by omega)
          have hgg := fun x => zrsM_g (σ := t) (s := zsq σ (w k) (b + at_ k) (row k)) (n := 1) (x := x)
          rw [eu] at hlg hgg
          have hL2 := hL.trans hlg
          refine ⟨by ((have q8 := hkm (by assumption); have q7 := hRr k q8; have q6 := hwv q8; exact ⟨by omega, by omega⟩)), ?_⟩
          refine ⟨by ((have q8 := hkm (by assumption); have q7 := hRr k q8; have q6 := hwv q8; exact ⟨by omega, by omega⟩)), ?_⟩
          have hI := ih (k + 1) u2 (by omega) (by omega) (hL2.le (by omega)) (fun x x0 x1 => ?_)
          · have ec : ((k + 1 : Nat) : Int) = (k : Int) + 1 := by omega
            rw [ec, q7.2.2.1, ← Int.add_assoc] at hI
            exact hI
          · have p4 := hT x x0 x1
            have p3 := zoN_r (ix := (fun j : Nat => zsq σ (w j) (b + at_ j) (row j))) (x := x) (n := k)
            have p1 := hc47 x x0 x1
            rw [hgg]
            simp only [zoN]
            by_cases e : x = zsq σ (w k) (b + at_ k) (row k)
            · rw [if_pos e, if_pos e.symm, ← e]
              omega
            · rw [if_neg e, if_neg (fun z => e z.symm)]
              omega
        · intro h5
          have q8h5 := hkm (by assumption)
          rw [(hwv q8h5).2.2.1] at h5
          refine ⟨by ((have q8 := hkm (by assumption); have q7 := hRr k q8; have q6 := hwv q8; exact ⟨by omega, by omega⟩)), ?_⟩
          refine ⟨by ((have q8 := hkm (by assumption); have q7 := hRr k q8; omega)), ?_⟩
          have q8 := hkm (by assumption)
          have q7 := hRr k q8
          have q6 := hwv q8
          have s0 := q7.2.2.2 (b + at_ k) (by omega) (by omega)
          have s1 : 1 < row k → 0 ≤ σ 42 (b + at_ k + 1) ∧ σ 42 (b + at_ k + 1) < 12 := fun q => q7.2.2.2 _ (by omega) (by omega)
          have s2 : 2 < row k → 0 ≤ σ 42 (b + at_ k + 2) ∧ σ 42 (b + at_ k + 2) < 12 := fun q => q7.2.2.2 _ (by omega) (by omega)
          rw [q6.2.1, q6.2.2.1]
          refine ⟨_, am_X9_shapes (by rw [e42]; omega), ?_⟩
          intro v3 u3 hv3
          rintro ⟨rfl, ev3⟩
          obtain ⟨hv3a, hv3b⟩ := hv3
          have es : 1884 * w k + v3 = zsq σ (w k) (b + at_ k) (row k) := by
            rw [← ev3, e42]
            unfold zsq
            split <;> (try split) <;> first | rfl | (exfalso; omega)
          have hzr := zsh_r (m := row k) (a := σ 42 (b + at_ k)) (b := if 1 < row k then σ 42 (b + at_ k + 1) else 0) (c := if 2 < row k then σ 42 (b + at_ k + 2) else 0) ⟨by omega, by omega, by omega, by omega, by (split <;> omega), by (split <;> omega)⟩
          have hzv : 0 ≤ v3 ∧ v3 < 1884 := by unfold zsq at es; omega
          refine ⟨by ((have q8 := hkm (by assumption); have q7 := hRr k q8; have q6 := hwv q8; exact ⟨by omega, by omega⟩)), ?_⟩
          have q4 := hT (1884 * w k + v3) (by omega) (by omega)
          have q3 := zoN_r (ix := (fun j : Nat => zsq σ (w j) (b + at_ j) (row j))) (x := 1884 * w k + v3) (n := k)
          have q1 := hc47 (1884 * w k + v3) (by omega) (by omega)
          refine ⟨_, am_X9_raise (by omega) (by omega) (by omega) (by omega), ?_⟩
          intro v4 u4 hv4
          intro kv4
          obtain ⟨hv4a, hv4b⟩ := hv4
          have eu : zrsM t _ 1 = u4 := kv4.1
          rw [es] at eu
          have hlg := zrsM_log (σ := t) (s := zsq σ (w k) (b + at_ k) (row k)) (n := 1) (by omega) (by omega)
          have hgg := fun x => zrsM_g (σ := t) (s := zsq σ (w k) (b + at_ k) (row k)) (n := 1) (x := x)
          rw [eu] at hlg hgg
          have hL2 := hL.trans hlg
          refine ⟨by ((have q8 := hkm (by assumption); have q7 := hRr k q8; have q6 := hwv q8; exact ⟨by omega, by omega⟩)), ?_⟩
          refine ⟨by ((have q8 := hkm (by assumption); have q7 := hRr k q8; have q6 := hwv q8; exact ⟨by omega, by omega⟩)), ?_⟩
          have hI := ih (k + 1) u4 (by omega) (by omega) (hL2.le (by omega)) (fun x x0 x1 => ?_)
          · have ec : ((k + 1 : Nat) : Int) = (k : Int) + 1 := by omega
            rw [ec, q7.2.2.1, ← Int.add_assoc] at hI
            exact hI
          · have p4 := hT x x0 x1
            have p3 := zoN_r (ix := (fun j : Nat => zsq σ (w j) (b + at_ j) (row j))) (x := x) (n := k)
            have p1 := hc47 x x0 x1
            rw [hgg]
            simp only [zoN]
            by_cases e : x = zsq σ (w k) (b + at_ k) (row k)
            · rw [if_pos e, if_pos e.symm, ← e]
              omega
            · rw [if_neg e, if_neg (fun z => e z.symm)]
              omega
      · intro h6
        have q8h6 := hkm (by assumption)
        rw [(hwv q8h6).2.2.1] at h6
        refine ⟨by ((have q8 := hkm (by assumption); have q7 := hRr k q8; have q6 := hwv q8; exact ⟨by omega, by omega⟩)), ?_⟩
        refine ⟨by ((have q8 := hkm (by assumption); have q7 := hRr k q8; omega)), ?_⟩
        refine ⟨?_, ?_⟩
        · intro h7
          have q8h7 := hkm (by assumption)
          rw [(hwv q8h7).2.2.1] at h7
          have q8 := hkm (by assumption)
          have q7 := hRr k q8
          have q6 := hwv q8
          have s0 := q7.2.2.2 (b + at_ k) (by omega) (by omega)
          have s1 : 1 < row k → 0 ≤ σ 42 (b + at_ k + 1) ∧ σ 42 (b + at_ k + 1) < 12 := fun q => q7.2.2.2 _ (by omega) (by omega)
          have s2 : 2 < row k → 0 ≤ σ 42 (b + at_ k + 2) ∧ σ 42 (b + at_ k + 2) < 12 := fun q => q7.2.2.2 _ (by omega) (by omega)
          rw [q6.2.1, q6.2.2.1]
          refine ⟨_, am_X9_shapes (by rw [e42]; omega), ?_⟩
          intro v5 u5 hv5
          rintro ⟨rfl, ev5⟩
          obtain ⟨hv5a, hv5b⟩ := hv5
          have es : 1884 * w k + v5 = zsq σ (w k) (b + at_ k) (row k) := by
            rw [← ev5, e42]
            unfold zsq
            split <;> (try split) <;> first | rfl | (exfalso; omega)
          have hzr := zsh_r (m := row k) (a := σ 42 (b + at_ k)) (b := if 1 < row k then σ 42 (b + at_ k + 1) else 0) (c := if 2 < row k then σ 42 (b + at_ k + 2) else 0) ⟨by omega, by omega, by omega, by omega, by (split <;> omega), by (split <;> omega)⟩
          have hzv : 0 ≤ v5 ∧ v5 < 1884 := by unfold zsq at es; omega
          refine ⟨by ((have q8 := hkm (by assumption); have q7 := hRr k q8; have q6 := hwv q8; exact ⟨by omega, by omega⟩)), ?_⟩
          have q4 := hT (1884 * w k + v5) (by omega) (by omega)
          have q3 := zoN_r (ix := (fun j : Nat => zsq σ (w j) (b + at_ j) (row j))) (x := 1884 * w k + v5) (n := k)
          have q1 := hc47 (1884 * w k + v5) (by omega) (by omega)
          refine ⟨_, am_X9_raise (by omega) (by omega) (by omega) (by omega), ?_⟩
          intro v6 u6 hv6
          intro kv6
          obtain ⟨hv6a, hv6b⟩ := hv6
          have eu : zrsM t _ 1 = u6 := kv6.1
          rw [es] at eu
          have hlg := zrsM_log (σ := t) (s := zsq σ (w k) (b + at_ k) (row k)) (n := 1) (by omega) (by omega)
          have hgg := fun x => zrsM_g (σ := t) (s := zsq σ (w k) (b + at_ k) (row k)) (n := 1) (x := x)
          rw [eu] at hlg hgg
          have hL2 := hL.trans hlg
          refine ⟨by ((have q8 := hkm (by assumption); have q7 := hRr k q8; have q6 := hwv q8; exact ⟨by omega, by omega⟩)), ?_⟩
          refine ⟨by ((have q8 := hkm (by assumption); have q7 := hRr k q8; have q6 := hwv q8; exact ⟨by omega, by omega⟩)), ?_⟩
          have hI := ih (k + 1) u6 (by omega) (by omega) (hL2.le (by omega)) (fun x x0 x1 => ?_)
          · have ec : ((k + 1 : Nat) : Int) = (k : Int) + 1 := by omega
            rw [ec, q7.2.2.1, ← Int.add_assoc] at hI
            exact hI
          · have p4 := hT x x0 x1
            have p3 := zoN_r (ix := (fun j : Nat => zsq σ (w j) (b + at_ j) (row j))) (x := x) (n := k)
            have p1 := hc47 x x0 x1
            rw [hgg]
            simp only [zoN]
            by_cases e : x = zsq σ (w k) (b + at_ k) (row k)
            · rw [if_pos e, if_pos e.symm, ← e]
              omega
            · rw [if_neg e, if_neg (fun z => e z.symm)]
              omega
        · intro h8
          have q8h8 := hkm (by assumption)
          rw [(hwv q8h8).2.2.1] at h8
          refine ⟨by ((have q8 := hkm (by assumption); have q7 := hRr k q8; have q6 := hwv q8; exact ⟨by omega, by omega⟩)), ?_⟩
          refine ⟨by ((have q8 := hkm (by assumption); have q7 := hRr k q8; omega)), ?_⟩
          have q8 := hkm (by assumption)
          have q7 := hRr k q8
          have q6 := hwv q8
          have s0 := q7.2.2.2 (b + at_ k) (by omega) (by omega)
          have s1 : 1 < row k → 0 ≤ σ 42 (b + at_ k + 1) ∧ σ 42 (b + at_ k + 1) < 12 := fun q => q7.2.2.2 _ (by omega) (by omega)
          have s2 : 2 < row k → 0 ≤ σ 42 (b + at_ k + 2) ∧ σ 42 (b + at_ k + 2) < 12 := fun q => q7.2.2.2 _ (by omega) (by omega)
          rw [q6.2.1, q6.2.2.1]
          refine ⟨_, am_X9_shapes (by rw [e42]; omega), ?_⟩
          intro v7 u7 hv7
          rintro ⟨rfl, ev7⟩
          obtain ⟨hv7a, hv7b⟩ := hv7
          have es : 1884 * w k + v7 = zsq σ (w k) (b + at_ k) (row k) := by
            rw [← ev7, e42]
            unfold zsq
            split <;> (try split) <;> first | rfl | (exfalso; omega)
          have hzr := zsh_r (m := row k) (a := σ 42 (b + at_ k)) (b := if 1 < row k then σ 42 (b + at_ k + 1) else 0) (c := if 2 < row k then σ 42 (b + at_ k + 2) else 0) ⟨by omega, by omega, by omega, by omega, by (split <;> omega), by (split <;> omega)⟩
          have hzv : 0 ≤ v7 ∧ v7 < 1884 := by unfold zsq at es; omega
          refine ⟨by ((have q8 := hkm (by assumption); have q7 := hRr k q8; have q6 := hwv q8; exact ⟨by omega, by omega⟩)), ?_⟩
          have q4 := hT (1884 * w k + v7) (by omega) (by omega)
          have q3 := zoN_r (ix := (fun j : Nat => zsq σ (w j) (b + at_ j) (row j))) (x := 1884 * w k + v7) (n := k)
          have q1 := hc47 (1884 * w k + v7) (by omega) (by omega)
          refine ⟨_, am_X9_raise (by omega) (by omega) (by omega) (by omega), ?_⟩
          intro v8 u8 hv8
          intro kv8
          obtain ⟨hv8a, hv8b⟩ := hv8
          have eu : zrsM t _ 1 = u8 := kv8.1
          rw [es] at eu
          have hlg := zrsM_log (σ := t) (s := zsq σ (w k) (b + at_ k) (row k)) (n := 1) (by omega) (by omega)
          have hgg := fun x => zrsM_g (σ := t) (s := zsq σ (w k) (b + at_ k) (row k)) (n := 1) (x := x)
          rw [eu] at hlg hgg
          have hL2 := hL.trans hlg
          refine ⟨by ((have q8 := hkm (by assumption); have q7 := hRr k q8; have q6 := hwv q8; exact ⟨by omega, by omega⟩)), ?_⟩
          refine ⟨by ((have q8 := hkm (by assumption); have q7 := hRr k q8; have q6 := hwv q8; exact ⟨by omega, by omega⟩)), ?_⟩
          have hI := ih (k + 1) u8 (by omega) (by omega) (hL2.le (by omega)) (fun x x0 x1 => ?_)
          · have ec : ((k + 1 : Nat) : Int) = (k : Int) + 1 := by omega
            rw [ec, q7.2.2.1, ← Int.add_assoc] at hI
            exact hI
          · have p4 := hT x x0 x1
            have p3 := zoN_r (ix := (fun j : Nat => zsq σ (w j) (b + at_ j) (row j))) (x := x) (n := k)
            have p1 := hc47 x x0 x1
            rw [hgg]
            simp only [zoN]
            by_cases e : x = zsq σ (w k) (b + at_ k) (row k)
            · rw [if_pos e, if_pos e.symm, ← e]
              omega
            · rw [if_neg e, if_neg (fun z => e z.symm)]
              omega
