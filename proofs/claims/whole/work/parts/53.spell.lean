/-! one word on one ink: least costs by what is left; N where none is -/
def zcn1 (f : Int → Int → Int → Int) (a k l N r : Int) : Int := if f a k l < 0 ∨ r = N then N else f a k l + r
def zm3 (g : Int → Int) (N p a : Int) : Nat → Int
  | 0 => N
  | j + 1 => if a + (j + 1 : Nat) ≤ p then min (zm3 g N p a j) (g (j + 1 : Nat)) else zm3 g N p a j
def zsp (f : Int → Int → Int → Int) (w : Nat → Int) (m : Nat) (p N : Int) : Nat → Int → Int
  | 0, a => if a = p then 0 else N
  | d + 1, a => zm3 (fun k => zcn1 f a k (w (m - (d + 1))) N (zsp f w m p N d (a + k))) N p a 3
theorem zm3_succ {g : Int → Int} {N p a : Int} {j : Nat} : zm3 g N p a (j + 1) = if a + (j + 1 : Nat) ≤ p then min (zm3 g N p a j) (g (j + 1 : Nat)) else zm3 g N p a j := rfl
theorem zm3_le {g : Int → Int} {N p a : Int} : ∀ {j : Nat}, zm3 g N p a j ≤ N
  | 0 => Int.le_refl _
  | j + 1 => by
    have ih := zm3_le (g := g) (N := N) (p := p) (a := a) (j := j)
    simp only [zm3]
    split <;> omega
/-- behind the end of the ink nothing comes in -/
theorem zm3_out {g : Int → Int} {N p a : Int} : ∀ {j i : Nat}, i ≤ j → p < a + (i + 1 : Nat) → zm3 g N p a j = zm3 g N p a i
  | 0, i, h, _ => by rw [show i = 0 by omega]
  | j + 1, i, h, h2 => by
    by_cases e : i = j + 1
    · rw [e]
    · rw [← zm3_out (j := j) (i := i) (by omega) h2]
      simp only [zm3]
      rw [if_neg (by omega)]
theorem zm3_s {g : Int → Int} {N p a : Int} {k : Int} (hk : 1 ≤ k) (h : a + k ≤ p) : zm3 g N p a k.toNat = min (zm3 g N p a (k - 1).toNat) (g k) := by
  obtain ⟨j, e⟩ : ∃ j : Nat, k = ((j + 1 : Nat) : Int) := ⟨(k - 1).toNat, by omega⟩
  subst e
  rw [show (((j + 1 : Nat) : Int)).toNat = j + 1 by omega, show (((j + 1 : Nat) : Int) - 1).toNat = j by omega]
  show (if a + (j + 1 : Nat) ≤ p then _ else _) = _
  rw [if_pos h]
/-- real costs are small, and of no N -/
theorem zsp_b {f : Int → Int → Int → Int} {w : Nat → Int} {m : Nat} {p N M : Int} (hf : ∀ a k l : Int, 0 ≤ a → 1 ≤ k → k ≤ 3 → a + k ≤ p → 0 ≤ l → l < 26 → f a k l ≤ 100) (hw : zlet w m) (hN : 2000 ≤ N) (hM : 2000 ≤ M) (hm : m ≤ 12) : ∀ (d : Nat) (a : Int), d ≤ m → 0 ≤ a → (zsp f w m p N d a = N ∧ zsp f w m p M d a = M) ∨ (zsp f w m p N d a = zsp f w m p M d a ∧ 0 ≤ zsp f w m p N d a ∧ zsp f w m p N d a ≤ 100 * (d : Int)) := by
  intro d
  induction d with
  | zero =>
    intro a _ _
    by_cases e : a = p
    · exact Or.inr ⟨by simp only [zsp, if_pos e], by simp only [zsp, if_pos e]; omega⟩
    · exact Or.inl ⟨by simp only [zsp, if_neg e], by simp only [zsp, if_neg e]⟩
  | succ d ih =>
    intro a hd ha
    have hl := hw (m - (d + 1)) (by omega)
    have key : ∀ j : Nat, j ≤ 3 → (zm3 (fun k => zcn1 f a k (w (m - (d + 1))) N (zsp f w m p N d (a + k))) N p a j = N ∧ zm3 (fun k => zcn1 f a k (w (m - (d + 1))) M (zsp f w m p M d (a + k))) M p a j = M) ∨ (zm3 (fun k => zcn1 f a k (w (m - (d + 1))) N (zsp f w m p N d (a + k))) N p a j = zm3 (fun k => zcn1 f a k (w (m - (d + 1))) M (zsp f w m p M d (a + k))) M p a j ∧ 0 ≤ zm3 (fun k => zcn1 f a k (w (m - (d + 1))) N (zsp f w m p N d (a + k))) N p a j ∧ zm3 (fun k => zcn1 f a k (w (m - (d + 1))) N (zsp f w m p N d (a + k))) N p a j ≤ 100 * ((d : Int) + 1)) := by
      intro j
      induction j with
      | zero => intro _; exact Or.inl ⟨rfl, rfl⟩
      | succ j jh =>
        intro hj
        have j1 := jh (by omega)
        by_cases g : a + (j + 1 : Nat) ≤ p
        · have i1 := ih (a + (j + 1 : Nat)) (by omega) (by omega)
          have b1 := hf a (j + 1 : Nat) (w (m - (d + 1))) ha (by omega) (by omega) g hl.1 hl.2
          rw [zm3_succ, zm3_succ, if_pos g, if_pos g]
          generalize zm3 (fun k => zcn1 f a k (w (m - (d + 1))) N (zsp f w m p N d (a + k))) N p a j = X at *
          generalize zm3 (fun k => zcn1 f a k (w (m - (d + 1))) M (zsp f w m p M d (a + k))) M p a j = Y at *
          simp only [zcn1]
          generalize f a (j + 1 : Nat) (w (m - (d + 1))) = F at *
          generalize zsp f w m p N d (a + (j + 1 : Nat)) = U at *
          generalize zsp f w m p M d (a + (j + 1 : Nat)) = V at *
          by_cases c : F < 0 ∨ U = N
          · have c2 : F < 0 ∨ V = M := by omega
            rw [if_pos c, if_pos c2]
            omega
          · have c2 : ¬ (F < 0 ∨ V = M) := by omega
            rw [if_neg c, if_neg c2]
            omega
        · rw [zm3_succ, zm3_succ, if_neg g, if_neg g]
          exact j1
    have k3 := key 3 (by omega)
    simp only [zsp]
    have e : ((d + 1 : Nat) : Int) = (d : Int) + 1 := by omega
    rw [e]
    exact k3
theorem zsp_0 {f : Int → Int → Int → Int} {w : Nat → Int} {m : Nat} {N : Int} {d : Nat} : zsp f w m 0 N (d + 1) 0 = N := by
  show zm3 _ N 0 0 3 = N
  rw [zm3_out (j := 3) (i := 0) (by omega) (by omega)]
  rfl
set_option maxRecDepth 100000 in
set_option maxHeartbeats 4000000 in
theorem am_X6_costBy {σ : zS} {k : Int} {l : Int} {a : Int} {r : Int} (hr : 0 ≤ k ∧ k < 12 ∧ 0 ≤ l ∧ l < 26 ∧ 0 ≤ a ∧ 1 ≤ r ∧ r ≤ 3 ∧ a + r ≤ 14) (h29 : -1 ≤ σ 29 ((a * 3 + r - 1) * 26 + l) ∧ σ 29 ((a * 3 + r - 1) * 26 + l) ≤ 100) (h33 : 0 ≤ σ 33 ((k + 1) * 15 + a + r) ∧ σ 33 ((k + 1) * 15 + a + r) ≤ 1000000) : zAM 45 [.inr (.inr (7, 0)), .inr (.inr (5, 0)), .inl k, .inl l, .inl a, .inl r] σ (fun (v : Int) (u : zS) => σ = u ∧ (if σ 29 ((a * 3 + r - 1) * 26 + l) = -1 ∨ σ 33 ((k + 1) * 15 + a + r) = 1000000 then 1000000 else σ 29 ((a * 3 + r - 1) * 26 + l) + σ 33 ((k + 1) * 15 + a + r)) = v) := by
  refine zam (by decide) (Nat.le_of_ble_eq_true rfl) ?_
  refine zwalk zmk_45 [] 4 ?_
  show (∃ Rc : Int → zS → Prop, zAM 13 [.inr (.inr (5, 0)), .inl a, .inl r, .inl l] σ Rc ∧ ∀ (v1 : Int) (u1 : zS), zI v1 → Rc v1 u1 → (zI (k + (1 : Int)) ∧ (zI ((k + (1 : Int)) * (15 : Int)) ∧ (zI (((k + (1 : Int)) * (15 : Int)) + a) ∧ (zI ((((k + (1 : Int)) * (15 : Int)) + a) + r) ∧ ((0 ≤ ((((k + (1 : Int)) * (15 : Int)) + a) + r) ∧ ((((k + (1 : Int)) * (15 : Int)) + a) + r) < (195 : Int)) ∧ ((v1 = (-1 : Int) → (σ = u1 ∧ (if σ 29 ((a * 3 + r - 1) * 26 + l) = -1 ∨ σ 33 ((k + 1) * 15 + a + r) = 1000000 then 1000000 else σ 29 ((a * 3 + r - 1) * 26 + l) + σ 33 ((k + 1) * 15 + a + r)) = (1000000 : Int))) ∧ (¬ v1 = (-1 : Int) → ((¬ (u1 33 ((((k + (1 : Int)) * (15 : Int)) + a) + r)) = (1000000 : Int) → (zI (v1 + (u1 33 ((((k + (1 : Int)) * (15 : Int)) + a) + r))) ∧ (σ = u1 ∧ (if σ 29 ((a * 3 + r - 1) * 26 + l) = -1 ∨ σ 33 ((k + 1) * 15 + a + r) = 1000000 then 1000000 else σ 29 ((a * 3 + r - 1) * 26 + l) + σ 33 ((k + 1) * 15 + a + r)) = (v1 + (u1 33 ((((k + (1 : Int)) * (15 : Int)) + a) + r)))))) ∧ ((u1 33 ((((k + (1 : Int)) * (15 : Int)) + a) + r)) = (1000000 : Int) → (σ = u1 ∧ (if σ 29 ((a * 3 + r - 1) * 26 + l) = -1 ∨ σ 33 ((k + 1) * 15 + a + r) = 1000000 then 1000000 else σ 29 ((a * 3 + r - 1) * 26 + l) + σ 33 ((k + 1) * 15 + a + r)) = (1000000 : Int))))))))))))
  refine ⟨_, am_X1_cost (by omega), ?_⟩
  intro v1 u1 hv1
  rintro ⟨rfl, rfl⟩
  obtain ⟨hv1a, hv1b⟩ := hv1
  refine ⟨by (first | exact ⟨by omega, by omega⟩ | (exfalso; omega)), ?_⟩
  refine ⟨by (first | exact ⟨by omega, by omega⟩ | (exfalso; omega)), ?_⟩
  refine ⟨by (first | exact ⟨by omega, by omega⟩ | (exfalso; omega)), ?_⟩
  refine ⟨by (first | exact ⟨by omega, by omega⟩ | (exfalso; omega)), ?_⟩
  refine ⟨by (first | exact ⟨by omega, by omega⟩ | (exfalso; omega)), ?_⟩
  refine ⟨?_, ?_⟩
  · intro h1
    first | exact ⟨rfl, if_pos (by omega)⟩ | exact ⟨rfl, if_neg (by omega)⟩
  · intro h2
    refine ⟨?_, ?_⟩
    · intro h3
      refine ⟨by (first | exact ⟨by omega, by omega⟩ | (exfalso; omega)), ?_⟩
      first | exact ⟨rfl, if_pos (by omega)⟩ | exact ⟨rfl, if_neg (by omega)⟩
    · intro h4
      first | exact ⟨rfl, if_pos (by omega)⟩ | exact ⟨rfl, if_neg (by omega)⟩
