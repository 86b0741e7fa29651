/-! the model's firstInList, kindOf, kind, as -/
theorem zfil_ex {σ : zS} {m : Int} {g : Int → Int} (h : 0 ≤ σ 9 22) : ∃ w : Int, zfil σ m g w := by
  have key : ∀ n : Nat, (n : Int) ≤ σ 9 22 → (∃ v : Int, 0 ≤ v ∧ v < n ∧ zwm σ m g v ∧ ∀ j : Int, 0 ≤ j → j < v → ¬ zwm σ m g j) ∨ ∀ j : Int, 0 ≤ j → j < n → ¬ zwm σ m g j := by
    intro n
    induction n with
    | zero => intro _; exact Or.inr (fun j a b => by omega)
    | succ n ih =>
      intro hn
      rcases ih (by omega) with ⟨v, a, b, c⟩ | q
      · exact Or.inl ⟨v, a, by omega, c⟩
      · by_cases e : zwm σ m g n
        · exact Or.inl ⟨n, by omega, by omega, e, q⟩
        · refine Or.inr (fun j a b => ?_)
          by_cases g : j = n
          · rw [g]; exact e
          · exact q j a (by omega)
  rcases key (σ 9 22).toNat (by omega) with ⟨v, a, b, c⟩ | q
  · exact ⟨v, Or.inl ⟨a, by omega, c⟩⟩
  · exact ⟨-1000000, Or.inr ⟨rfl, fun j a b => q j a (by omega)⟩⟩
theorem zfil_u {σ : zS} {m w w' : Int} {g : Int → Int} (h : zfil σ m g w) (h' : zfil σ m g w') : w = w' := by
  rcases h with ⟨a, b, c, d⟩ | ⟨a, b⟩ <;> rcases h' with ⟨a', b', c', d'⟩ | ⟨a', b'⟩
  · rcases Int.lt_trichotomy w w' with q | q | q
    · exact absurd c (d' w a q)
    · exact q
    · exact absurd c' (d w' a' q)
  · exact absurd c (b' w a b)
  · exact absurd c' (b w' a' b')
  · rw [a, a']
theorem zfil_r {σ : zS} {m w : Int} {g : Int → Int} (h : zfil σ m g w) (h2 : σ 9 22 ≤ 30) : w = -1000000 ∨ 0 ≤ w ∧ w < 30 := by
  rcases h with ⟨a, b, -⟩ | ⟨a, -⟩ <;> omega
set_option maxRecDepth 100000 in
set_option maxHeartbeats 4000000 in
theorem lp_fil39 {w : Int} {i : Int} {g : Nat → Int} {m9 : Nat} {σ : zS} (hi : 0 ≤ i ∧ i < 40) (hg : zlet g m9) (hm12 : m9 ≤ 12) (hx1 : σ 58 (5 * i) = zrt g m9) (hx2 : σ 59 (5 * i) = (m9 : Int)) (hl22 : 0 ≤ σ 9 22 ∧ σ 9 22 ≤ 30) (hw0 : 0 ≤ w ∧ w < σ 9 22) (hlow : ∀ j : Int, 0 ≤ j → j < w → ¬ zwm σ m9 (fun k : Int => g k.toNat) j) (K : ¬ zwm σ m9 (fun k : Int => g k.toNat) w → zRuns 148 zX0 (fun (v : Int) (u : zS) => σ = u ∧ zfil σ (m9 : Int) (fun k : Int => g k.toNat) v) 11 [some (.inr (.inr (9, 0))), some (.inl i), some (.inl (m9 : Int)), some (.inl (w + 1)), none, none] [] σ) : ∀ (n : Nat) (k : Int) (t : Int), (m9 : Int) + 1 - k < (n : Int) → (0 ≤ k ∧ k ≤ m9) → ((t = 1 ∧ σ 51 w = m9 ∧ ∀ j : Int, 0 ≤ j → j < k → σ 52 (12 * w + j) = g j.toNat) ∨ (t = 0 ∧ ¬ zwm σ m9 (fun k : Int => g k.toNat) w)) → zRuns 148 zX0 (fun (v : Int) (u : zS) => σ = u ∧ zfil σ (m9 : Int) (fun k : Int => g k.toNat) v) 39 [some (.inr (.inr (9, 0))), some (.inl i), some (.inl (σ 59 (5 * i))), some (.inl w), some (.inl t), some (.inl k)] [] σ := by
  intro n
  induction n with
  | zero =>
    intro k t hn qk qt
    exfalso
    omega
  | succ n ih =>
    intro k t hn qk qt
    refine zwalk zmk_148 [(11, [true, true, true, true, false, false]), (39, [true, true, true, true, true, true])] 4 ?_
    show (((σ 59 (5 * i)) ≤ k → ((t = 0 → (zI (w + (1 : Int)) ∧ zRuns 148 zX0 (fun (v : Int) (u : zS) => σ = u ∧ zfil σ (m9 : Int) (fun k : Int => g k.toNat) v) 11 [some (.inr (.inr (9, 0))), some (.inl i), some (.inl (σ 59 (5 * i))), some (.inl (w + (1 : Int))), none, none] [] σ)) ∧ (¬ t = 0 → (σ = σ ∧ zfil σ (m9 : Int) (fun k : Int => g k.toNat) w)))) ∧ (k < (σ 59 (5 * i)) → ((t = 0 → ((t = 0 → (zI (w + (1 : Int)) ∧ zRuns 148 zX0 (fun (v : Int) (u : zS) => σ = u ∧ zfil σ (m9 : Int) (fun k : Int => g k.toNat) v) 11 [some (.inr (.inr (9, 0))), some (.inl i), some (.inl (σ 59 (5 * i))), some (.inl (w + (1 : Int))), none, none] [] σ)) ∧ (¬ t = 0 → (σ = σ ∧ zfil σ (m9 : Int) (fun k : Int => g k.toNat) w)))) ∧ (¬ t = 0 → (zI ((12 : Int) * w) ∧ (zI (((12 : Int) * w) + k) ∧ ((0 ≤ (((12 : Int) * w) + k) ∧ (((12 : Int) * w) + k) < (360 : Int)) ∧ (zI ((5 : Int) * i) ∧ ((0 ≤ ((5 : Int) * i) ∧ ((5 : Int) * i) < (200 : Int)) ∧ (zI ((σ 59 (5 * i)) - (1 : Int)) ∧ (zI (((σ 59 (5 * i)) - (1 : Int)) - k) ∧ (zI ((5 : Int) * (((σ 59 (5 * i)) - (1 : Int)) - k)) ∧ ((¬ (zcmp (σ 52 (((12 : Int) * w) + k)) (Int64.ofInt (Int64.ofInt (σ 58 ((5 : Int) * i)) >>> ((Int32.ofInt ((5 : Int) * (((σ 59 (5 * i)) - (1 : Int)) - k))).toInt64 &&& 63)).toInt &&& Int64.ofInt (31 : Int)).toInt) = 0 → (zI (k + (1 : Int)) ∧ zRuns 148 zX0 (fun (v : Int) (u : zS) => σ = u ∧ zfil σ (m9 : Int) (fun k : Int => g k.toNat) v) 39 [some (.inr (.inr (9, 0))), some (.inl i), some (.inl (σ 59 (5 * i))), some (.inl w), some (.inl (0 : Int)), some (.inl (k + (1 : Int)))] [] σ)) ∧ ((zcmp (σ 52 (((12 : Int) * w) + k)) (Int64.ofInt (Int64.ofInt (σ 58 ((5 : Int) * i)) >>> ((Int32.ofInt ((5 : Int) * (((σ 59 (5 * i)) - (1 : Int)) - k))).toInt64 &&& 63)).toInt &&& Int64.ofInt (31 : Int)).toInt) = 0 → (zI (k + (1 : Int)) ∧ zRuns 148 zX0 (fun (v : Int) (u : zS) => σ = u ∧ zfil σ (m9 : Int) (fun k : Int => g k.toNat) v) 39 [some (.inr (.inr (9, 0))), some (.inl i), some (.inl (σ 59 (5 * i))), some (.inl w), some (.inl (1 : Int)), some (.inl (k + (1 : Int)))] [] σ)))))))))))))))
    have hx3 := hx2
    refine ⟨?_, ?_⟩
    · intro h1
      refine ⟨?_, ?_⟩
      · intro h2
        refine ⟨by (first | exact ⟨by omega, by omega⟩ | (exfalso; omega)), ?_⟩
        rw [hx2]
        refine K (fun q => ?_)
        rcases qt with ⟨_, q1, q2⟩ | ⟨q1, q2⟩
        · omega
        · exact q2 q
      · intro h3
        first | (exfalso; omega) | (rcases qt with ⟨_, q1, q2⟩ | ⟨q1, q2⟩ <;> first | (exfalso; omega) | exact ⟨rfl, Or.inl ⟨by omega, by omega, ⟨q1, fun j a b => q2 j a (by omega)⟩, hlow⟩⟩)
    · intro h4
      refine ⟨?_, ?_⟩
      · intro h5
        refine ⟨?_, ?_⟩
        · intro h6
          refine ⟨by (first | exact ⟨by omega, by omega⟩ | (exfalso; omega)), ?_⟩
          rw [hx2]
          refine K (fun q => ?_)
          rcases qt with ⟨_, q1, q2⟩ | ⟨q1, q2⟩
          · omega
          · exact q2 q
        · intro h7
          first | (exfalso; omega) | (rcases qt with ⟨_, q1, q2⟩ | ⟨q1, q2⟩ <;> first | (exfalso; omega) | exact ⟨rfl, Or.inl ⟨by omega, by omega, ⟨q1, fun j a b => q2 j a (by omega)⟩, hlow⟩⟩)
      · intro h8
        refine ⟨by (first | exact ⟨by omega, by omega⟩ | (exfalso; omega)), ?_⟩
        refine ⟨by (first | exact ⟨by omega, by omega⟩ | (exfalso; omega)), ?_⟩
        refine ⟨by (first | exact ⟨by omega, by omega⟩ | (exfalso; omega)), ?_⟩
        refine ⟨by (first | exact ⟨by omega, by omega⟩ | (exfalso; omega)), ?_⟩
        refine ⟨by (first | exact ⟨by omega, by omega⟩ | (exfalso; omega)), ?_⟩
        refine ⟨by (first | exact ⟨by omega, by omega⟩ | (exfalso; omega)), ?_⟩
        refine ⟨by (first | exact ⟨by omega, by omega⟩ | (exfalso; omega)), ?_⟩
        refine ⟨by (first | exact ⟨by omega, by omega⟩ | (exfalso; omega)), ?_⟩
        refine ⟨?_, ?_⟩
        · intro h9
          simp only [zc_lt, zc_ge, zc_gt, zc_le, zc_eq] at h9
          rw [hx1, hx2, zmd hg hm12 qk.1 (by omega)] at h9
          refine ⟨by (first | exact ⟨by omega, by omega⟩ | (exfalso; omega)), ?_⟩
          exact ih _ _ (by omega) (by omega) (Or.inr ⟨rfl, fun q => by have q2 := q.2 k (by omega) (by omega); contradiction⟩)
        · intro h10
          simp only [zc_lt, zc_ge, zc_gt, zc_le, zc_eq] at h10
          rw [hx1, hx2, zmd hg hm12 qk.1 (by omega)] at h10
          refine ⟨by (first | exact ⟨by omega, by omega⟩ | (exfalso; omega)), ?_⟩
          rcases qt with ⟨_, q1, q2⟩ | ⟨q1, _⟩
          · refine ih _ _ (by omega) (by omega) (Or.inl ⟨rfl, q1, fun j a b => ?_⟩)
            by_cases e : j = k
            · rw [e]; assumption
            · exact q2 j a (by omega)
          · exfalso; omega
set_option maxRecDepth 100000 in
set_option maxHeartbeats 4000000 in
theorem lp_fil11 {i : Int} {g : Nat → Int} {m9 : Nat} {σ : zS} (hi : 0 ≤ i ∧ i < 40) (hg : zlet g m9) (hm12 : m9 ≤ 12) (hx1 : σ 58 (5 * i) = zrt g m9) (hx2 : σ 59 (5 * i) = (m9 : Int)) (hl22 : 0 ≤ σ 9 22 ∧ σ 9 22 ≤ 30) : ∀ (n : Nat) (w : Int), σ 9 22 + 1 - w < (n : Int) → (0 ≤ w ∧ w ≤ σ 9 22) → (∀ j : Int, 0 ≤ j → j < w → ¬ zwm σ m9 (fun k : Int => g k.toNat) j) → zRuns 148 zX0 (fun (v : Int) (u : zS) => σ = u ∧ zfil σ (m9 : Int) (fun k : Int => g k.toNat) v) 11 [some (.inr (.inr (9, 0))), some (.inl i), some (.inl (m9 : Int)), some (.inl w), none, none] [] σ := by
  intro n
  induction n with
  | zero =>
    intro w hn hw0 hlow
    exfalso
    omega
  | succ n ih =>
    intro w hn hw0 hlow
    refine zwalk zmk_148 [(11, [true, true, true, true, false, false]), (39, [true, true, true, true, true, true])] 3 ?_
    show (((σ 9 (22 : Int)) ≤ w → (σ = σ ∧ zfil σ (m9 : Int) (fun k : Int => g k.toNat) (-1000000 : Int))) ∧ (w < (σ 9 (22 : Int)) → ((0 ≤ w ∧ w < (30 : Int)) ∧ ((¬ (σ 51 w) = (m9 : Int) → zRuns 148 zX0 (fun (v : Int) (u : zS) => σ = u ∧ zfil σ (m9 : Int) (fun k : Int => g k.toNat) v) 39 [some (.inr (.inr (9, 0))), some (.inl i), some (.inl (m9 : Int)), some (.inl w), some (.inl (0 : Int)), some (.inl (0 : Int))] [] σ) ∧ ((σ 51 w) = (m9 : Int) → zRuns 148 zX0 (fun (v : Int) (u : zS) => σ = u ∧ zfil σ (m9 : Int) (fun k : Int => g k.toNat) v) 39 [some (.inr (.inr (9, 0))), some (.inl i), some (.inl (m9 : Int)), some (.inl w), some (.inl (1 : Int)), some (.inl (0 : Int))] [] σ)))))
    refine ⟨?_, ?_⟩
    · intro h1
      exact ⟨rfl, Or.inr ⟨rfl, fun j a b => hlow j a (by omega)⟩⟩
    · intro h2
      refine ⟨by (first | exact ⟨by omega, by omega⟩ | (exfalso; omega)), ?_⟩
      refine ⟨?_, ?_⟩
      · intro h3
        have hJ := lp_fil39 hi hg hm12 hx1 hx2 hl22 (w := w) (by omega) hlow (fun q => ih (w + 1) (by omega) (by omega) (fun j a b => ?_)) (m9 + 2) 0 0 (by omega) (by omega) (Or.inr ⟨rfl, fun q => by have q2 := q.1; omega⟩)
        · rw [hx2] at hJ
          exact hJ
        · by_cases e : j = w
          · rw [e]; exact q
          · exact hlow j a (by omega)
      · intro h4
        have hJ := lp_fil39 hi hg hm12 hx1 hx2 hl22 (w := w) (by omega) hlow (fun q => ih (w + 1) (by omega) (by omega) (fun j a b => ?_)) (m9 + 2) 0 1 (by omega) (by omega) (Or.inl ⟨rfl, by omega, fun j a b => by omega⟩)
        · rw [hx2] at hJ
          exact hJ
        · by_cases e : j = w
          · rw [e]; exact q
          · exact hlow j a (by omega)
set_option maxRecDepth 100000 in
set_option maxHeartbeats 4000000 in
theorem am_X9_firstInList {σ : zS} {i : Int} {g : Nat → Int} {m9 : Nat} (hi : 0 ≤ i ∧ i < 40) (hg : zlet g m9) (hm12 : m9 ≤ 12) (hx1 : σ 58 (5 * i) = zrt g m9) (hx2 : σ 59 (5 * i) = (m9 : Int)) (hl22 : 0 ≤ σ 9 22 ∧ σ 9 22 ≤ 30) : zAM 148 [.inr (.inr (9, 0)), .inl i] σ (fun (v : Int) (u : zS) => σ = u ∧ zfil σ (m9 : Int) (fun k : Int => g k.toNat) v) := by
  refine zam (by decide) (Nat.le_of_ble_eq_true rfl) ?_
  refine zwalk zmk_148 [(11, [true, true, true, true, false, false]), (39, [true, true, true, true, true, true])] 2 ?_
  show (zI ((5 : Int) * i) ∧ ((0 ≤ ((5 : Int) * i) ∧ ((5 : Int) * i) < (200 : Int)) ∧ zRuns 148 zX0 (fun (v : Int) (u : zS) => σ = u ∧ zfil σ (m9 : Int) (fun k : Int => g k.toNat) v) 11 [some (.inr (.inr (9, 0))), some (.inl i), some (.inl (σ 59 ((5 : Int) * i))), some (.inl (0 : Int)), none, none] [] σ))
  refine ⟨by (first | exact ⟨by omega, by omega⟩ | (exfalso; omega)), ?_⟩
  refine ⟨by (first | exact ⟨by omega, by omega⟩ | (exfalso; omega)), ?_⟩
  rw [hx2]
  exact lp_fil11 hi hg hm12 hx1 hx2 hl22 32 0 (by omega) (by omega) (fun j a b => by omega)
def zmkM (u : zS) (i w : Int) : Int := if u 56 i = 0 then 0 else if 1 < u 56 i ∧ u 57 (5 * i + 1) < u 57 (5 * i) + 4 then 1 else if w = -1000000 then 2 else 3
/-- w is the place in the list of the first reading of ink i -/
def zFW (u : zS) (i w : Int) : Prop := ¬ u 56 i = 0 → ∃ (g : Nat → Int) (m9 : Nat), zlet g m9 ∧ (1 ≤ m9 ∧ m9 ≤ 12) ∧ u 58 (5 * i) = zrt g m9 ∧ u 59 (5 * i) = (m9 : Int) ∧ zfil u m9 (fun k : Int => g k.toNat) w
def zML (σ : zS) : Prop := 0 ≤ σ 9 22 ∧ σ 9 22 ≤ 30
theorem zKP_1 {u : zS} {i : Int} {S : Int → Int → Prop} (h : zKP u i S) (hn : ¬ u 56 i = 0) : ∃ (g : Nat → Int) (m9 : Nat), zlet g m9 ∧ (1 ≤ m9 ∧ m9 ≤ 12) ∧ u 58 (5 * i) = zrt g m9 ∧ u 59 (5 * i) = (m9 : Int) := by
  have h1 := h.1.1
  obtain ⟨g, m, a, b, c, d⟩ := h.2 0 (by decide) (by omega)
  rw [Int.add_zero] at c d
  exact ⟨g, m, a, b, c, d⟩
theorem zFW_ex {u : zS} {i : Int} {S : Int → Int → Prop} (h : zKP u i S) (hL : zML u) : ∃ w : Int, zFW u i w := by
  by_cases hn : u 56 i = 0
  · exact ⟨0, fun q => absurd hn q⟩
  · obtain ⟨g, m, a, b, c, d⟩ := zKP_1 h hn
    obtain ⟨w, hw⟩ := zfil_ex (m := (m : Int)) (g := fun k : Int => g k.toNat) hL.1
    exact ⟨w, fun _ => ⟨g, m, a, b, c, d, hw⟩⟩
/-- the costs of readings that the model told -/
theorem zKP_c {u : zS} {i q : Int} {f : Int → Int → Int → Int} {P : Int → Int → Int} (h : zKP u i (zSD f P q)) (hb : zgb f P q) : (0 ≤ u 56 i ∧ u 56 i ≤ 5) ∧ ∀ j : Int, 0 ≤ j → j < u 56 i → 0 ≤ u 57 (5 * i + j) ∧ u 57 (5 * i + j) ≤ 2000 := ⟨h.1.1, fun j j0 j1 => zSD_b hb (h.1.2.2.1 j j0 j1).1⟩
theorem zgb_m {σ : zS} {i : Int} (hO : zMO σ) (hi : 0 ≤ i ∧ i < σ 9 13) : zgb (zmft σ i) (zPM σ) (zmq σ i) := by
  have h2 := hO.2.2.1 i hi.1 hi.2
  refine ⟨fun a k l a0 k0 k1 ak l0 l1 => ?_, fun a b a0 a1 b0 b1 => ?_⟩
  · have h3 := zmc_c (l := l) (a := σ 45 i + a) (k := k) hO.2.2.2.2 (fun j j0 j1 => hO.2.2.2.1 j (by omega) (by unfold zmq at ak; split at ak <;> omega)) ⟨k0, k1⟩ ⟨l0, l1⟩
    unfold zmft
    split <;> omega
  · have h3 := hO.2.2.2.2 (48984 + 26 * a + b) (by omega) (by omega)
    unfold zPM
    rw [Int.add_comm]
    exact z6r h3.1
/-- all that calls on inks need, of the model -/
noncomputable def zMQ2 (σ : zS) : Prop := zMO σ ∧ zMI σ ∧ zML σ
set_option maxRecDepth 100000 in
set_option maxHeartbeats 4000000 in
theorem am_X9_kindOf {σ : zS} {i : Int} (hM : zMQ2 σ) (hi : 0 ≤ i ∧ i < σ 9 13) : zAM 147 [.inr (.inr (9, 0)), .inl i] σ (fun (v : Int) (u : zS) => zNW σ u i ∧ ∃ w : Int, zFW u i w ∧ zmkM u i w = v) := by
  refine zam (by decide) (Nat.le_of_ble_eq_true rfl) ?_
  refine zwalk zmk_147 [] 5 ?_
  show (∃ Rc : Int → zS → Prop, zAM 139 [.inr (.inr (9, 0)), .inl i] σ Rc ∧ ∀ (u1 : zS), Rc 0 u1 → ((0 ≤ i ∧ i < (40 : Int)) ∧ ((¬ (u1 56 i) = 0 → ((0 ≤ i ∧ i < (40 : Int)) ∧ (((u1 56 i) ≤ (1 : Int) → (∃ Rc : Int → zS → Prop, zAM 148 [.inr (.inr (9, 0)), .inl i] u1 Rc ∧ ∀ (v2 : Int) (u2 : zS), zI v2 → Rc v2 u2 → ((¬ v2 = (-1000000 : Int) → (zNW σ u2 i ∧ ∃ w : Int, zFW u2 i w ∧ zmkM u2 i w = (3 : Int))) ∧ (v2 = (-1000000 : Int) → (zNW σ u2 i ∧ ∃ w : Int, zFW u2 i w ∧ zmkM u2 i w = (2 : Int)))))) ∧ ((1 : Int) < (u1 56 i) → (zI ((5 : Int) * i) ∧ (zI (((5 : Int) * i) + (1 : Int)) ∧ ((0 ≤ (((5 : Int) * i) + (1 : Int)) ∧ (((5 : Int) * i) + (1 : Int)) < (200 : Int)) ∧ (zI ((5 : Int) * i) ∧ ((0 ≤ ((5 : Int) * i) ∧ ((5 : Int) * i) < (200 : Int)) ∧ (zI ((u1 57 ((5 : Int) * i)) + (4 : Int)) ∧ ((((u1 57 ((5 : Int) * i)) + (4 : Int)) ≤ (u1 57 (((5 : Int) * i) + (1 : Int))) → (∃ Rc : Int → zS → Prop, zAM 148 [.inr (.inr (9, 0)), .inl i] u1 Rc ∧ ∀ (v3 : Int) (u3 : zS), zI v3 → Rc v3 u3 → ((¬ v3 = (-1000000 : Int) → (zNW σ u3 i ∧ ∃ w : Int, zFW u3 i w ∧ zmkM u3 i w = (3 : Int))) ∧ (v3 = (-1000000 : Int) → (zNW σ u3 i ∧ ∃ w : Int, zFW u3 i w ∧ zmkM u3 i w = (2 : Int)))))) ∧ ((u1 57 (((5 : Int) * i) + (1 : Int))) < ((u1 57 ((5 : Int) * i)) + (4 : Int)) → (zNW σ u1 i ∧ ∃ w : Int, zFW u1 i w ∧ zmkM u1 i w = (1 : Int)))))))))))))) ∧ ((u1 56 i) = 0 → (zNW σ u1 i ∧ ∃ w : Int, zFW u1 i w ∧ zmkM u1 i w = (0 : Int))))))
  refine ⟨_, am_know (hM.1) (hi), ?_⟩
  intro u1
  intro kv1
  have hN := zKNR_nw hM.2.1 hi kv1
  have hcc := zKP_c hN.2.2.1 (zgb_m hM.1 hi)
  have hcc0 := hcc.2 0 (by decide)
  have hcc1 := hcc.2 1 (by decide)
  rw [Int.add_zero] at hcc0
  have hL2 : zML u1 := by unfold zML; rw [hN.1 9 (by decide)]; exact hM.2.2
  have h13 := hM.1.1
  obtain ⟨w0, hw0⟩ := zFW_ex hN.2.2.1 hL2
  refine ⟨by (omega), ?_⟩
  refine ⟨?_, ?_⟩
  · intro h1
    refine ⟨by (omega), ?_⟩
    refine ⟨?_, ?_⟩
    · intro h2
      obtain ⟨g, m9, g1, g2, g3, g4⟩ := zKP_1 hN.2.2.1 (by assumption)
      refine ⟨_, am_X9_firstInList (g := g) (m9 := m9) (by omega) (g1) (g2.2) (g3) (g4) (hL2), ?_⟩
      intro v2 u2 hv2
      intro kv2
      obtain ⟨hv2a, hv2b⟩ := hv2
      obtain ⟨rfl, g5⟩ := kv2
      refine ⟨?_, ?_⟩
      · intro h3
        refine ⟨hN, _, fun _ => ⟨g, m9, g1, g2, g3, g4, g5⟩, ?_⟩
        unfold zmkM
        rw [if_neg (by assumption), if_neg (by omega), if_neg (by assumption)]
      · intro h4
        refine ⟨hN, _, fun _ => ⟨g, m9, g1, g2, g3, g4, g5⟩, ?_⟩
        unfold zmkM
        rw [if_neg (by assumption), if_neg (by omega), if_pos (by assumption)]
    · intro h5
      refine ⟨by (first | exact ⟨by omega, by omega⟩ | (have hcc2 := hcc0 (by omega); exact ⟨by omega, by omega⟩)), ?_⟩
      refine ⟨by (first | exact ⟨by omega, by omega⟩ | (have hcc2 := hcc0 (by omega); exact ⟨by omega, by omega⟩)), ?_⟩
      refine ⟨by (omega), ?_⟩
      refine ⟨by (first | exact ⟨by omega, by omega⟩ | (have hcc2 := hcc0 (by omega); exact ⟨by omega, by omega⟩)), ?_⟩
      refine ⟨by (omega), ?_⟩
      refine ⟨by (first | exact ⟨by omega, by omega⟩ | (have hcc2 := hcc0 (by omega); exact ⟨by omega, by omega⟩)), ?_⟩
      refine ⟨?_, ?_⟩
      · intro h6
        obtain ⟨g, m9, g1, g2, g3, g4⟩ := zKP_1 hN.2.2.1 (by assumption)
        refine ⟨_, am_X9_firstInList (g := g) (m9 := m9) (by omega) (g1) (g2.2) (g3) (g4) (hL2), ?_⟩
        intro v3 u3 hv3
        intro kv3
        obtain ⟨hv3a, hv3b⟩ := hv3
        obtain ⟨rfl, g5⟩ := kv3
        refine ⟨?_, ?_⟩
        · intro h7
          refine ⟨hN, _, fun _ => ⟨g, m9, g1, g2, g3, g4, g5⟩, ?_⟩
          unfold zmkM
          rw [if_neg (by assumption), if_neg (by omega), if_neg (by assumption)]
        · intro h8
          refine ⟨hN, _, fun _ => ⟨g, m9, g1, g2, g3, g4, g5⟩, ?_⟩
          unfold zmkM
          rw [if_neg (by assumption), if_neg (by omega), if_pos (by assumption)]
      · intro h9
        exact ⟨hN, w0, hw0, by unfold zmkM; rw [if_neg (by assumption), if_pos ⟨by assumption, by assumption⟩]⟩
  · intro h10
    exact ⟨hN, w0, hw0, if_pos (by assumption)⟩
set_option maxRecDepth 100000 in
set_option maxHeartbeats 4000000 in
theorem am_X9_kind {σ : zS} {i : Int} (hM : zMQ2 σ) : zAM 149 [.inr (.inr (9, 0)), .inl i] σ (fun (v : Int) (u : zS) => ((¬ (0 ≤ i ∧ i < σ 9 13)) ∧ σ = u ∧ -1000001 = v) ∨ ((0 ≤ i ∧ i < σ 9 13) ∧ zNW σ u i ∧ ∃ w : Int, zFW u i w ∧ zmkM u i w = v)) := by
  refine zam (by decide) (Nat.le_of_ble_eq_true rfl) ?_
  refine zwalk zmk_149 [] 3 ?_
  show (∃ Rc : Int → zS → Prop, zAM 116 [.inr (.inr (9, 0)), .inl i] σ Rc ∧ ∀ (v1 : Int) (u1 : zS), zI v1 → Rc v1 u1 → ((v1 = 0 → (((¬ (0 ≤ i ∧ i < σ 9 13)) ∧ σ = u1 ∧ -1000001 = (-1000001 : Int)) ∨ ((0 ≤ i ∧ i < σ 9 13) ∧ zNW σ u1 i ∧ ∃ w : Int, zFW u1 i w ∧ zmkM u1 i w = (-1000001 : Int)))) ∧ (¬ v1 = 0 → (∃ Rc : Int → zS → Prop, zAM 147 [.inr (.inr (9, 0)), .inl i] u1 Rc ∧ ∀ (v2 : Int) (u2 : zS), zI v2 → Rc v2 u2 → (((¬ (0 ≤ i ∧ i < σ 9 13)) ∧ σ = u2 ∧ -1000001 = v2) ∨ ((0 ≤ i ∧ i < σ 9 13) ∧ zNW σ u2 i ∧ ∃ w : Int, zFW u2 i w ∧ zmkM u2 i w = v2))))))
  refine ⟨_, am_X9_isInk (hM.1.1), ?_⟩
  intro v1 u1 hv1
  rintro ⟨rfl, (⟨rfl, cv1⟩ | ⟨rfl, cv1⟩)⟩
  · refine ⟨?_, ?_⟩
    · exact fun h => absurd h (by decide)
    · intro _
      refine ⟨_, am_X9_kindOf (hM) (cv1), ?_⟩
      intro v2 u2 hv2
      intro kv2
      obtain ⟨hv2a, hv2b⟩ := hv2
      obtain ⟨hN, w0, hw0, hwk⟩ := kv2
      first | exact Or.inl ⟨cv1, rfl, rfl⟩ | exact Or.inr ⟨cv1, hN, w0, hw0, hwk⟩
  · refine ⟨?_, ?_⟩
    · intro _
      first | exact Or.inl ⟨cv1, rfl, rfl⟩ | exact Or.inr ⟨cv1, hN, w0, hw0, hwk⟩
    · exact fun h => absurd h (by decide)
set_option maxRecDepth 100000 in
set_option maxHeartbeats 4000000 in
theorem am_X9_as {σ : zS} {i : Int} {k : Int} (hM : zMQ2 σ) : zAM 150 [.inr (.inr (9, 0)), .inl i, .inl k] σ (fun (v : Int) (u : zS) => ((¬ (0 ≤ i ∧ i < σ 9 13) ∨ ¬ (0 ≤ k ∧ k ≤ 3)) ∧ σ = u ∧ -1000001 = v) ∨ (((0 ≤ i ∧ i < σ 9 13) ∧ 0 ≤ k ∧ k ≤ 3) ∧ ∃ τ : zS, zNW σ τ i ∧ ∃ w : Int, zFW τ i w ∧ ((zmkM τ i w < k ∧ zup τ 9 4 3 = u ∧ -1000013 = v) ∨ (k ≤ zmkM τ i w ∧ zup τ 9 4 0 = u ∧ σ 45 (i + 1) - σ 45 i = v)))) := by
  refine zam (by decide) (Nat.le_of_ble_eq_true rfl) ?_
  refine zwalk zmk_150 [] 4 ?_
  show (∃ Rc : Int → zS → Prop, zAM 116 [.inr (.inr (9, 0)), .inl i] σ Rc ∧ ∀ (v1 : Int) (u1 : zS), zI v1 → Rc v1 u1 → ((v1 = 0 → (((¬ (0 ≤ i ∧ i < σ 9 13) ∨ ¬ (0 ≤ k ∧ k ≤ 3)) ∧ σ = u1 ∧ -1000001 = (-1000001 : Int)) ∨ (((0 ≤ i ∧ i < σ 9 13) ∧ 0 ≤ k ∧ k ≤ 3) ∧ ∃ τ : zS, zNW σ τ i ∧ ∃ w : Int, zFW τ i w ∧ ((zmkM τ i w < k ∧ zup τ 9 4 3 = u1 ∧ -1000013 = (-1000001 : Int)) ∨ (k ≤ zmkM τ i w ∧ zup τ 9 4 0 = u1 ∧ σ 45 (i + 1) - σ 45 i = (-1000001 : Int)))))) ∧ (¬ v1 = 0 → (∃ Rc : Int → zS → Prop, zAM 103 [.inr (.inl k), .inr (.inl (0 : Int)), .inr (.inl (3 : Int))] u1 Rc ∧ ∀ (v2 : Int) (u2 : zS), zI v2 → Rc v2 u2 → ((¬ v2 = 0 → (∃ Rc : Int → zS → Prop, zAM 147 [.inr (.inr (9, 0)), .inl i] u2 Rc ∧ ∀ (v3 : Int) (u3 : zS), zI v3 → Rc v3 u3 → ((v3 < k → (∃ Rc : Int → zS → Prop, zAM 104 [.inr (.inr (9, 0)), .inl (3 : Int)] u3 Rc ∧ ∀ (v4 : Int) (u4 : zS), zI v4 → Rc v4 u4 → (((¬ (0 ≤ i ∧ i < σ 9 13) ∨ ¬ (0 ≤ k ∧ k ≤ 3)) ∧ σ = u4 ∧ -1000001 = v4) ∨ (((0 ≤ i ∧ i < σ 9 13) ∧ 0 ≤ k ∧ k ≤ 3) ∧ ∃ τ : zS, zNW σ τ i ∧ ∃ w : Int, zFW τ i w ∧ ((zmkM τ i w < k ∧ zup τ 9 4 3 = u4 ∧ -1000013 = v4) ∨ (k ≤ zmkM τ i w ∧ zup τ 9 4 0 = u4 ∧ σ 45 (i + 1) - σ 45 i = v4)))))) ∧ (k ≤ v3 → (∃ Rc : Int → zS → Prop, zAM 117 [.inr (.inr (9, 0)), .inl i] u3 Rc ∧ ∀ (v5 : Int) (u5 : zS), zI v5 → Rc v5 u5 → (∃ Rc : Int → zS → Prop, zAM 105 [.inr (.inr (9, 0)), .inl v5] u5 Rc ∧ ∀ (v6 : Int) (u6 : zS), zI v6 → Rc v6 u6 → (((¬ (0 ≤ i ∧ i < σ 9 13) ∨ ¬ (0 ≤ k ∧ k ≤ 3)) ∧ σ = u6 ∧ -1000001 = v6) ∨ (((0 ≤ i ∧ i < σ 9 13) ∧ 0 ≤ k ∧ k ≤ 3) ∧ ∃ τ : zS, zNW σ τ i ∧ ∃ w : Int, zFW τ i w ∧ ((zmkM τ i w < k ∧ zup τ 9 4 3 = u6 ∧ -1000013 = v6) ∨ (k ≤ zmkM τ i w ∧ zup τ 9 4 0 = u6 ∧ σ 45 (i + 1) - σ 45 i = v6)))))))))) ∧ (v2 = 0 → (((¬ (0 ≤ i ∧ i < σ 9 13) ∨ ¬ (0 ≤ k ∧ k ≤ 3)) ∧ σ = u2 ∧ -1000001 = (-1000001 : Int)) ∨ (((0 ≤ i ∧ i < σ 9 13) ∧ 0 ≤ k ∧ k ≤ 3) ∧ ∃ τ : zS, zNW σ τ i ∧ ∃ w : Int, zFW τ i w ∧ ((zmkM τ i w < k ∧ zup τ 9 4 3 = u2 ∧ -1000013 = (-1000001 : Int)) ∨ (k ≤ zmkM τ i w ∧ zup τ 9 4 0 = u2 ∧ σ 45 (i + 1) - σ 45 i = (-1000001 : Int)))))))))))
  refine ⟨_, am_X9_isInk (hM.1.1), ?_⟩
  intro v1 u1 hv1
  rintro ⟨rfl, (⟨rfl, cv1⟩ | ⟨rfl, cv1⟩)⟩
  · refine ⟨?_, ?_⟩
    · exact fun h => absurd h (by decide)
    · intro _
      refine ⟨_, am_X9_in, ?_⟩
      intro v2 u2 hv2
      rintro ⟨rfl, (⟨rfl, cv2⟩ | ⟨rfl, cv2⟩)⟩
      · refine ⟨?_, ?_⟩
        · intro _
          refine ⟨_, am_X9_kindOf (hM) (cv1), ?_⟩
          intro v3 u3 hv3
          intro kv3
          obtain ⟨hv3a, hv3b⟩ := hv3
          obtain ⟨hN, w0, hw0, hwk⟩ := kv3
          refine ⟨?_, ?_⟩
          · intro h3
            refine ⟨_, am_X9_finds (by decide), ?_⟩
            intro v4 u4 hv4
            intro kv4
            obtain ⟨hv4a, hv4b⟩ := hv4
            obtain ⟨rfl, w5⟩ := kv4
            first | exact Or.inl ⟨by omega, rfl, rfl⟩ | exact Or.inr ⟨⟨cv1, by omega, by omega⟩, _, hN, w0, hw0, Or.inl ⟨by omega, rfl, by omega⟩⟩ | exact Or.inr ⟨⟨cv1, by omega, by omega⟩, _, hN, w0, hw0, Or.inr ⟨by omega, rfl, by omega⟩⟩
          · intro h4
            have q5 := hM.1.1
            have q6 := hM.1.2.1
            have q7 := hM.1.2.2.1 i cv1.1 cv1.2
            have e45 := hN.1 45 (by decide)
            refine ⟨_, am_X9_many (by omega) (by rw [e45]; omega) (by rw [e45]; omega), ?_⟩
            intro v5 u5 hv5
            intro kv5
            obtain ⟨hv5a, hv5b⟩ := hv5
            obtain ⟨rfl, w4⟩ := kv5
            rw [e45] at w4
            refine ⟨_, am_X9_well, ?_⟩
            intro v6 u6 hv6
            intro kv6
            obtain ⟨hv6a, hv6b⟩ := hv6
            obtain ⟨rfl, w5⟩ := kv6
            first | exact Or.inl ⟨by omega, rfl, rfl⟩ | exact Or.inr ⟨⟨cv1, by omega, by omega⟩, _, hN, w0, hw0, Or.inl ⟨by omega, rfl, by omega⟩⟩ | exact Or.inr ⟨⟨cv1, by omega, by omega⟩, _, hN, w0, hw0, Or.inr ⟨by omega, rfl, by omega⟩⟩
        · exact fun h => absurd h (by decide)
      · refine ⟨?_, ?_⟩
        · exact fun h => absurd h (by decide)
        · intro _
          first | exact Or.inl ⟨by omega, rfl, rfl⟩ | exact Or.inr ⟨⟨cv1, by omega, by omega⟩, _, hN, w0, hw0, Or.inl ⟨by omega, rfl, by omega⟩⟩ | exact Or.inr ⟨⟨cv1, by omega, by omega⟩, _, hN, w0, hw0, Or.inr ⟨by omega, rfl, by omega⟩⟩
  · refine ⟨?_, ?_⟩
    · intro _
      first | exact Or.inl ⟨by omega, rfl, rfl⟩ | exact Or.inr ⟨⟨cv1, by omega, by omega⟩, _, hN, w0, hw0, Or.inl ⟨by omega, rfl, by omega⟩⟩ | exact Or.inr ⟨⟨cv1, by omega, by omega⟩, _, hN, w0, hw0, Or.inr ⟨by omega, rfl, by omega⟩⟩
    · exact fun h => absurd h (by decide)
