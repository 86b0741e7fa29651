/-! the class's Fits -/
def zcd (sh : Int → Int) (a : Int) : Nat → Int
  | 0 => 0
  | n + 1 => zcd sh a n * 13 + sh (a + n) + 1
theorem zcd_s {sh : Int → Int} {a j : Int} (h : a ≤ j) : zcd sh a (j + 1 - a).toNat = zcd sh a (j - a).toNat * 13 + sh j + 1 := by
  obtain ⟨n, e⟩ : ∃ n : Nat, j = a + n := ⟨(j - a).toNat, by omega⟩
  subst e
  rw [show (a + (n : Int) + 1 - a).toNat = n + 1 by omega, show (a + (n : Int) - a).toNat = n by omega]
  rfl
theorem zcd_rc {sh : Int → Int} {a k : Int} (hk : 1 ≤ k ∧ k ≤ 3) : zcd sh a k.toNat = zrc k (sh a) (sh (a + 1)) (sh (a + 2)) := by
  have e0 : a + ((0 : Nat) : Int) = a := by omega
  have e1 : a + ((1 : Nat) : Int) = a + 1 := by omega
  have e2 : a + ((2 : Nat) : Int) = a + 2 := by omega
  rcases (show k = 1 ∨ k = 2 ∨ k = 3 by omega) with rfl | rfl | rfl
  · show (0 * 13 + sh (a + ((0 : Nat) : Int)) + 1) = _
    rw [e0]
    show _ = sh a + 1
    omega
  · show ((0 * 13 + sh (a + ((0 : Nat) : Int)) + 1) * 13 + sh (a + ((1 : Nat) : Int)) + 1) = _
    rw [e0, e1]
    show _ = (sh a + 1) * 13 + sh (a + 1) + 1
    omega
  · show (((0 * 13 + sh (a + ((0 : Nat) : Int)) + 1) * 13 + sh (a + ((1 : Nat) : Int)) + 1) * 13 + sh (a + ((2 : Nat) : Int)) + 1) = _
    rw [e0, e1, e2]
    show _ = ((sh a + 1) * 13 + sh (a + 1) + 1) * 13 + sh (a + 2) + 1
    omega
theorem zcd_b {sh : Int → Int} {a : Int} : ∀ {n : Nat}, n ≤ 3 → (∀ j : Nat, j < n → 0 ≤ sh (a + j) ∧ sh (a + j) < 12) → 0 ≤ zcd sh a n ∧ (n = 0 → zcd sh a n = 0) ∧ (n ≤ 1 → zcd sh a n ≤ 12) ∧ (n ≤ 2 → zcd sh a n ≤ 168)
  | 0, _, _ => by simp [zcd]
  | n + 1, hn, h => by
    have ih := zcd_b (n := n) (by omega) (fun j hj => h j (by omega))
    have h1 := h n (by omega)
    simp only [zcd]
    omega
/-- what the class's table of forms tells: counts by letter and code of the row -/
def zCT (σ : zS) (cnt : Int → Int → Int) : Prop := (0 ≤ σ 3 3 ∧ σ 3 3 ≤ 512) ∧ (∀ j : Int, 0 ≤ j → j < σ 3 3 → (0 ≤ σ 23 j ∧ σ 23 j < 26) ∧ σ 22 (676 + j) = cnt (σ 23 j) (σ 24 j)) ∧ ∀ l r : Int, (∀ j : Int, 0 ≤ j → j < σ 3 3 → ¬ (σ 23 j = l ∧ σ 24 j = r)) → cnt l r = 0
def zFm (cnt : Int → Int → Int) (l r : Int) (d : Bool) (b : Int) : Int := if cnt l r ≤ 0 then b else zct l (cnt l r) d
/-- how letters cost on rows of an ink whose pieces begin at b -/
def zfm (cnt : Int → Int → Int) (sh o : Int → Int) (b a k l : Int) : Int := zFm cnt l (zrc k (sh (b + a)) (sh (b + a + 1)) (sh (b + a + 2))) (zhd o (b + a) k.toNat) (-1)
set_option maxRecDepth 100000 in
set_option maxHeartbeats 4000000 in
theorem lp_rca {a : Int} {k : Int} {σ : zS} (ha : 0 ≤ a ∧ a + k ≤ σ 2 7 ∧ σ 2 7 ≤ 40) (hk : 1 ≤ k ∧ k ≤ 3) (hs : ∀ j : Int, a ≤ j → j < a + k → 0 ≤ σ 18 j ∧ σ 18 j < 12) : ∀ (n : Nat) (j : Int), a + k + 1 - j < (n : Int) → (a ≤ j ∧ j ≤ a + k) → zRuns 22 zX0 (fun (v : Int) (u : zS) => σ = u ∧ zcd (σ 18) a k.toNat = v) 5 [some (.inr (.inr (2, 0))), some (.inl a), some (.inl k), some (.inl (zcd (σ 18) a (j - a).toNat)), some (.inl j)] [] σ := by
  intro n
  induction n with
  | zero =>
    intro j hn j0
    exfalso
    omega
  | succ n ih =>
    intro j hn j0
    refine zwalk zmk_22 [(5, [true, true, true, true, true])] 3 ?_
    show (zI (a + k) ∧ (((a + k) ≤ j → (σ = σ ∧ zcd (σ 18) a k.toNat = (zcd (σ 18) a (j - a).toNat))) ∧ (j < (a + k) → (((σ 2 (7 : Int)) ≤ j → (σ = σ ∧ zcd (σ 18) a k.toNat = (zcd (σ 18) a (j - a).toNat))) ∧ (j < (σ 2 (7 : Int)) → ((0 ≤ j ∧ j < (40 : Int)) ∧ (∃ Rc : Int → zS → Prop, zAM 84 [.inl (zcd (σ 18) a (j - a).toNat), .inl (σ 18 j)] σ Rc ∧ ∀ (v1 : Int) (u1 : zS), zI v1 → Rc v1 u1 → (zI (j + (1 : Int)) ∧ zRuns 22 zX0 (fun (v : Int) (u : zS) => σ = u ∧ zcd (σ 18) a k.toNat = v) 5 [some (.inr (.inr (2, 0))), some (.inl a), some (.inl k), some (.inl v1), some (.inl (j + (1 : Int)))] [] u1))))))))
    have hcb := zcd_b (sh := σ 18) (a := a) (n := (j - a).toNat) (by omega) (fun i hi => hs _ (by omega) (by omega))
    have hsj : j < a + k → 0 ≤ σ 18 j ∧ σ 18 j < 12 := fun q => hs j (by omega) q
    have zs := zcd_s (sh := σ 18) j0.1
    refine ⟨by (first | exact ⟨by omega, by omega⟩ | (exfalso; omega)), ?_⟩
    refine ⟨?_, ?_⟩
    · intro h1
      refine ⟨rfl, ?_⟩
      rw [show k.toNat = (j - a).toNat by omega]
    · intro h2
      refine ⟨?_, ?_⟩
      · intro h3
        refine ⟨rfl, ?_⟩
        rw [show k.toNat = (j - a).toNat by omega]
      · intro h4
        refine ⟨by (first | exact ⟨by omega, by omega⟩ | (exfalso; omega)), ?_⟩
        refine ⟨_, am_X8_rowCodeWith (by omega), ?_⟩
        intro v1 u1 hv1
        rintro ⟨rfl, rfl⟩
        obtain ⟨hv1a, hv1b⟩ := hv1
        refine ⟨by (first | exact ⟨by omega, by omega⟩ | (exfalso; omega)), ?_⟩
        have hI := ih (j + 1) (by omega) ⟨by omega, by omega⟩
        rw [zs] at hI
        exact hI
set_option maxRecDepth 100000 in
set_option maxHeartbeats 4000000 in
theorem am_X2_rowCodeAt {σ : zS} {a : Int} {k : Int} (ha : 0 ≤ a ∧ a + k ≤ σ 2 7 ∧ σ 2 7 ≤ 40) (hk : 1 ≤ k ∧ k ≤ 3) (hs : ∀ j : Int, a ≤ j → j < a + k → 0 ≤ σ 18 j ∧ σ 18 j < 12) : zAM 22 [.inr (.inr (2, 0)), .inl a, .inl k] σ (fun (v : Int) (u : zS) => σ = u ∧ zrc k (σ 18 a) (σ 18 (a + 1)) (σ 18 (a + 2)) = v) := by
  refine zam (by decide) (Nat.le_of_ble_eq_true rfl) ?_
  refine zwalk zmk_22 [(5, [true, true, true, true, true])] 2 ?_
  show zRuns 22 zX0 (fun (v : Int) (u : zS) => σ = u ∧ zrc k (σ 18 a) (σ 18 (a + 1)) (σ 18 (a + 2)) = v) 5 [some (.inr (.inr (2, 0))), some (.inl a), some (.inl k), some (.inl (0 : Int)), some (.inl a)] [] σ
  have hI := lp_rca ha hk hs 5 a (by omega) ⟨by omega, by omega⟩
  rw [show (a - a).toNat = 0 by omega, zcd_rc hk] at hI
  exact hI
set_option maxRecDepth 100000 in
set_option maxHeartbeats 4000000 in
theorem lp_hd {a : Int} {k : Int} {σ : zS} (ha : 0 ≤ a ∧ a + k ≤ σ 2 7 ∧ σ 2 7 ≤ 40) (hk : 1 ≤ k ∧ k ≤ 3) : ∀ (n : Nat) (j : Int), a + k + 1 - j < (n : Int) → (a ≤ j ∧ j ≤ a + k) → (zhd (σ 19) a (j - a).toNat = false) → zRuns 23 zX0 (fun (v : Int) (u : zS) => σ = u ∧ (v = 1 ∧ zhd (σ 19) a k.toNat = true ∨ v = 0 ∧ zhd (σ 19) a k.toNat = false)) 2 [some (.inr (.inr (2, 0))), some (.inl a), some (.inl k), some (.inl j)] [] σ := by
  intro n
  induction n with
  | zero =>
    intro j hn j0 hd
    exfalso
    omega
  | succ n ih =>
    intro j hn j0 hd
    refine zwalk zmk_23 [(2, [true, true, true, true])] 3 ?_
    show (zI (a + k) ∧ (((a + k) ≤ j → (((0 : Int) = 0 ∨ (0 : Int) = 1) ∧ (σ = σ ∧ ((0 : Int) = 1 ∧ zhd (σ 19) a k.toNat = true ∨ (0 : Int) = 0 ∧ zhd (σ 19) a k.toNat = false)))) ∧ (j < (a + k) → (((σ 2 (7 : Int)) ≤ j → (((0 : Int) = 0 ∨ (0 : Int) = 1) ∧ (σ = σ ∧ ((0 : Int) = 1 ∧ zhd (σ 19) a k.toNat = true ∨ (0 : Int) = 0 ∧ zhd (σ 19) a k.toNat = false)))) ∧ (j < (σ 2 (7 : Int)) → ((0 ≤ j ∧ j < (40 : Int)) ∧ (((σ 19 j) ≤ 0 → (zI (j + (1 : Int)) ∧ zRuns 23 zX0 (fun (v : Int) (u : zS) => σ = u ∧ (v = 1 ∧ zhd (σ 19) a k.toNat = true ∨ v = 0 ∧ zhd (σ 19) a k.toNat = false)) 2 [some (.inr (.inr (2, 0))), some (.inl a), some (.inl k), some (.inl (j + (1 : Int)))] [] σ)) ∧ (0 < (σ 19 j) → (((1 : Int) = 0 ∨ (1 : Int) = 1) ∧ (σ = σ ∧ ((1 : Int) = 1 ∧ zhd (σ 19) a k.toNat = true ∨ (1 : Int) = 0 ∧ zhd (σ 19) a k.toNat = false)))))))))))
    have zs := zhd_s (o := σ 19) j0.1
    refine ⟨by (first | exact ⟨by omega, by omega⟩ | (exfalso; omega)), ?_⟩
    refine ⟨?_, ?_⟩
    · intro h1
      refine ⟨by (omega), ?_⟩
      rw [show (j - a).toNat = k.toNat by omega] at hd
      exact ⟨rfl, Or.inr ⟨rfl, hd⟩⟩
    · intro h2
      refine ⟨?_, ?_⟩
      · intro h3
        refine ⟨by (omega), ?_⟩
        rw [show (j - a).toNat = k.toNat by omega] at hd
        exact ⟨rfl, Or.inr ⟨rfl, hd⟩⟩
      · intro h4
        refine ⟨by (first | exact ⟨by omega, by omega⟩ | (exfalso; omega)), ?_⟩
        refine ⟨?_, ?_⟩
        · intro h5
          refine ⟨by (first | exact ⟨by omega, by omega⟩ | (exfalso; omega)), ?_⟩
          exact ih (j + 1) (by omega) ⟨by omega, by omega⟩ (by rw [zs, hd, decide_eq_false (by omega)]; rfl)
        · intro h6
          refine ⟨by (omega), ?_⟩
          exact ⟨rfl, Or.inl ⟨rfl, zhd_iff.mpr ⟨j - a, by omega, by omega, by rw [show a + (j - a) = j by omega]; assumption⟩⟩⟩
set_option maxRecDepth 100000 in
set_option maxHeartbeats 4000000 in
theorem am_X2_hasDot {σ : zS} {a : Int} {k : Int} (ha : 0 ≤ a ∧ a + k ≤ σ 2 7 ∧ σ 2 7 ≤ 40) (hk : 1 ≤ k ∧ k ≤ 3) : zAM 23 [.inr (.inr (2, 0)), .inl a, .inl k] σ (fun (v : Int) (u : zS) => σ = u ∧ (v = 1 ∧ zhd (σ 19) a k.toNat = true ∨ v = 0 ∧ zhd (σ 19) a k.toNat = false)) := by
  refine zam (by decide) (Nat.le_of_ble_eq_true rfl) ?_
  refine zwalk zmk_23 [(2, [true, true, true, true])] 2 ?_
  show zRuns 23 zX0 (fun (v : Int) (u : zS) => σ = u ∧ (v = 1 ∧ zhd (σ 19) a k.toNat = true ∨ v = 0 ∧ zhd (σ 19) a k.toNat = false)) 2 [some (.inr (.inr (2, 0))), some (.inl a), some (.inl k), some (.inl a)] [] σ
  exact lp_hd ha hk 5 a (by omega) ⟨by omega, by omega⟩ (by rw [show (a - a).toNat = 0 by omega]; rfl)
theorem zct_dot {l c d : Int} {b : Bool} (hd : d = 1 ∧ b = true ∨ d = 0 ∧ b = false) : 12 / (c + 1) + zdot l d = zct l c b := by
  unfold zct
  rcases hd with ⟨rfl, rfl⟩ | ⟨rfl, rfl⟩ <;> rfl
theorem z12' {c : Int} (h : 1 ≤ c) : 0 ≤ 12 / (c + 1) ∧ 12 / (c + 1) ≤ 6 := by
  rw [Int.add_comm]; exact z12 h
theorem zdot_r {l d : Int} : 0 ≤ zdot l d ∧ zdot l d ≤ 5 := by
  unfold zdot
  split
  · omega
  · split <;> omega
set_option maxRecDepth 100000 in
set_option maxHeartbeats 4000000 in
theorem lp_tr {b : Int} {r : Int} {d : Int} {dd : Bool} {cnt : Int → Int → Int} {σ : zS} (hcf : zCT σ cnt) (hcb : ∀ l r : Int, 0 ≤ cnt l r ∧ cnt l r ≤ 999) (hb : 0 ≤ b ∧ b + 26 ≤ 1092) (hd : d = 1 ∧ dd = true ∨ d = 0 ∧ dd = false) : ∀ (n : Nat) (k : Int) (t : zS), σ 3 3 - k < (n : Int) → (0 ≤ k ∧ k ≤ σ 3 3) → (zfr [29] σ t) → (∀ j : Int, (j < b ∨ b + 26 ≤ j) → t 29 j = σ 29 j) → (∀ l : Int, 0 ≤ l → l < 26 → (∃ j : Int, 0 ≤ j ∧ j < k ∧ σ 23 j = l ∧ σ 24 j = r) → t 29 (b + l) = zFm cnt l r dd (σ 29 (b + l))) → (∀ l : Int, 0 ≤ l → l < 26 → (¬ ∃ j : Int, 0 ≤ j ∧ j < k ∧ σ 23 j = l ∧ σ 24 j = r) → t 29 (b + l) = σ 29 (b + l)) → zRuns 10 zX0 (fun (v : Int) (u : zS) => zfr [29] σ u ∧ (∀ j : Int, (j < b ∨ b + 26 ≤ j) → u 29 j = σ 29 j) ∧ ∀ l : Int, 0 ≤ l → l < 26 → u 29 (b + l) = zFm cnt l r dd (σ 29 (b + l))) 3 [some (.inr (.inr (5, 0))), some (.inr (.inr (3, 0))), some (.inl b), some (.inl r), some (.inl d), some (.inl k), none, none] [] t := by
  intro n
  induction n with
  | zero =>
    intro k t hn k0 hf ho f1 f2
    exfalso
    omega
  | succ n ih =>
    intro k t hn k0 hf ho f1 f2
    refine zwalk zmk_10 [(3, [true, true, true, true, true, true, false, false])] 3 ?_
    show (((t 3 (3 : Int)) ≤ k → (zfr [29] σ t ∧ (∀ j : Int, (j < b ∨ b + 26 ≤ j) → t 29 j = σ 29 j) ∧ ∀ l : Int, 0 ≤ l → l < 26 → t 29 (b + l) = zFm cnt l r dd (σ 29 (b + l)))) ∧ (k < (t 3 (3 : Int)) → (zI ((676 : Int) + k) ∧ ((0 ≤ ((676 : Int) + k) ∧ ((676 : Int) + k) < (1188 : Int)) ∧ (((t 22 ((676 : Int) + k)) ≤ 0 → (zI (k + (1 : Int)) ∧ zRuns 10 zX0 (fun (v : Int) (u : zS) => zfr [29] σ u ∧ (∀ j : Int, (j < b ∨ b + 26 ≤ j) → u 29 j = σ 29 j) ∧ ∀ l : Int, 0 ≤ l → l < 26 → u 29 (b + l) = zFm cnt l r dd (σ 29 (b + l))) 3 [some (.inr (.inr (5, 0))), some (.inr (.inr (3, 0))), some (.inl b), some (.inl r), some (.inl d), some (.inl (k + (1 : Int))), none, none] [] t)) ∧ (0 < (t 22 ((676 : Int) + k)) → ((0 ≤ k ∧ k < (512 : Int)) ∧ ((¬ (t 24 k) = r → (zI (k + (1 : Int)) ∧ zRuns 10 zX0 (fun (v : Int) (u : zS) => zfr [29] σ u ∧ (∀ j : Int, (j < b ∨ b + 26 ≤ j) → u 29 j = σ 29 j) ∧ ∀ l : Int, 0 ≤ l → l < 26 → u 29 (b + l) = zFm cnt l r dd (σ 29 (b + l))) 3 [some (.inr (.inr (5, 0))), some (.inr (.inr (3, 0))), some (.inl b), some (.inl r), some (.inl d), some (.inl (k + (1 : Int))), none, none] [] t)) ∧ ((t 24 k) = r → ((0 ≤ k ∧ k < (512 : Int)) ∧ (zI (b + (t 23 k)) ∧ (zI ((t 22 ((676 : Int) + k)) + (1 : Int)) ∧ ((0 ≤ (12 : Int) ∧ 0 < ((t 22 ((676 : Int) + k)) + (1 : Int))) ∧ (∃ Rc : Int → zS → Prop, zAM 11 [.inl (t 23 k), .inl d] t Rc ∧ ∀ (v1 : Int) (u1 : zS), zI v1 → Rc v1 u1 → (zI (((12 : Int) / ((t 22 ((676 : Int) + k)) + (1 : Int))) + v1) ∧ ((0 ≤ (b + (t 23 k)) ∧ (b + (t 23 k)) < (1092 : Int)) ∧ (zI (k + (1 : Int)) ∧ zRuns 10 zX0 (fun (v : Int) (u : zS) => zfr [29] σ u ∧ (∀ j : Int, (j < b ∨ b + 26 ≤ j) → u 29 j = σ 29 j) ∧ ∀ l : Int, 0 ≤ l → l < 26 → u 29 (b + l) = zFm cnt l r dd (σ 29 (b + l))) 3 [some (.inr (.inr (5, 0))), some (.inr (.inr (3, 0))), some (.inl b), some (.inl r), some (.inl d), some (.inl (k + (1 : Int))), none, none] [] (zup u1 29 (b + (t 23 k)) (((12 : Int) / ((t 22 ((676 : Int) + k)) + (1 : Int))) + v1)))))))))))))))))))
    have hcf1 := hcf.1
    have e3 : t 3 3 = σ 3 3 := by rw [hf 3 (by decide)]
    have e22 : t 22 = σ 22 := hf 22 (by decide)
    have e23 : t 23 = σ 23 := hf 23 (by decide)
    have e24 : t 24 = σ 24 := hf 24 (by decide)
    have cj : k < σ 3 3 → ((0 ≤ t 23 k ∧ t 23 k < 26) ∧ t 22 (676 + k) = cnt (t 23 k) (t 24 k)) ∧ 0 ≤ cnt (t 23 k) (t 24 k) ∧ cnt (t 23 k) (t 24 k) ≤ 999 := fun q => ⟨by rw [e22, e23, e24]; exact hcf.2.1 k k0.1 q, hcb _ _⟩
    have q12 : 0 < t 22 (676 + k) → 0 ≤ 12 / (t 22 (676 + k) + 1) ∧ 12 / (t 22 (676 + k) + 1) ≤ 6 := fun q => z12' (by omega)
    have qd := zdot_r (l := t 23 k) (d := d)
    refine ⟨?_, ?_⟩
    · intro h1
      obtain rfl : k = σ 3 3 := by omega
      refine ⟨hf, ho, fun l l0 l1 => ?_⟩
      by_cases g : ∃ j : Int, 0 ≤ j ∧ j < σ 3 3 ∧ σ 23 j = l ∧ σ 24 j = r
      · exact f1 l l0 l1 g
      · rw [f2 l l0 l1 g]
        have h0 := hcf.2.2 l r (fun j j0 j1 q => g ⟨j, j0, j1, q⟩)
        unfold zFm
        rw [h0, if_pos (by omega)]
    · intro h2
      refine ⟨by (have q9 := cj (by omega); exact ⟨by omega, by omega⟩), ?_⟩
      refine ⟨by (first | omega | (have q9 := cj (by omega); omega)), ?_⟩
      refine ⟨?_, ?_⟩
      · intro h3
        refine ⟨by (have q9 := cj (by omega); exact ⟨by omega, by omega⟩), ?_⟩
        have q9 := cj (by omega)
        refine ih (k + 1) t (by omega) ⟨by omega, by omega⟩ hf ho (fun l l0 l1 hl => ?_) (fun l l0 l1 hl => f2 l l0 l1 (fun ⟨j, j0, j1, q⟩ => hl ⟨j, j0, by omega, q⟩))
        obtain ⟨j, j0, j1, j2, j3⟩ := hl
        by_cases z : j = k
        · by_cases g : ∃ j : Int, 0 ≤ j ∧ j < k ∧ σ 23 j = l ∧ σ 24 j = r
          · exact f1 l l0 l1 g
          · rw [f2 l l0 l1 g]
            unfold zFm
            rw [z] at j2 j3
            rw [e22, e23, e24] at q9
            rw [if_pos (by rw [← j2, ← j3]; first | (rw [e22] at *; omega) | (rw [e24] at *; omega))]
        · exact f1 l l0 l1 ⟨j, j0, by omega, j2, j3⟩
      · intro h4
        refine ⟨by (first | omega | (have q9 := cj (by omega); omega)), ?_⟩
        refine ⟨?_, ?_⟩
        · intro h5
          refine ⟨by (have q9 := cj (by omega); exact ⟨by omega, by omega⟩), ?_⟩
          have q9 := cj (by omega)
          refine ih (k + 1) t (by omega) ⟨by omega, by omega⟩ hf ho (fun l l0 l1 hl => ?_) (fun l l0 l1 hl => f2 l l0 l1 (fun ⟨j, j0, j1, q⟩ => hl ⟨j, j0, by omega, q⟩))
          obtain ⟨j, j0, j1, j2, j3⟩ := hl
          by_cases z : j = k
          · by_cases g : ∃ j : Int, 0 ≤ j ∧ j < k ∧ σ 23 j = l ∧ σ 24 j = r
            · exact f1 l l0 l1 g
            · rw [f2 l l0 l1 g]
              unfold zFm
              rw [z] at j2 j3
              rw [e22, e23, e24] at q9
              rw [if_pos (by rw [← j2, ← j3]; first | (rw [e22] at *; omega) | (rw [e24] at *; omega))]
          · exact f1 l l0 l1 ⟨j, j0, by omega, j2, j3⟩
        · intro h6
          refine ⟨by (first | omega | (have q9 := cj (by omega); omega)), ?_⟩
          refine ⟨by (have q9 := cj (by omega); exact ⟨by omega, by omega⟩), ?_⟩
          refine ⟨by (have q9 := cj (by omega); exact ⟨by omega, by omega⟩), ?_⟩
          refine ⟨by (first | omega | (have q9 := cj (by omega); omega)), ?_⟩
          refine ⟨_, am_X1_dotCost (by omega), ?_⟩
          intro v1 u1 hv1
          rintro ⟨rfl, rfl⟩
          obtain ⟨hv1a, hv1b⟩ := hv1
          refine ⟨by (have q9 := cj (by omega); exact ⟨by omega, by omega⟩), ?_⟩
          refine ⟨by (first | omega | (have q9 := cj (by omega); omega)), ?_⟩
          refine ⟨by (have q9 := cj (by omega); exact ⟨by omega, by omega⟩), ?_⟩
          have q9 := cj (by omega)
          refine ih (k + 1) _ (by omega) ⟨by omega, by omega⟩ (hf.up (c := 29) (by decide)) (fun j hj => ?_) (fun l l0 l1 hl => ?_) (fun l l0 l1 hl => ?_)
          · rw [zup_at, if_neg (by omega)]; exact ho j hj
          · by_cases g : l = t 23 k
            · rw [zup_at, if_pos (by omega), zct_dot hd, q9.1.2, g, show t 24 k = r by assumption]
              unfold zFm
              rw [if_neg (by rw [← show t 24 k = r by assumption]; omega)]
            · rw [zup_at, if_neg (by omega)]
              obtain ⟨j, j0, j1, j2, j3⟩ := hl
              have jk : ¬ j = k := fun z => by rw [z] at j2; rw [e23] at g; omega
              exact f1 l l0 l1 ⟨j, j0, by omega, j2, j3⟩
          · have g : ¬ l = t 23 k := fun q => hl ⟨k, k0.1, by omega, by rw [q, e23], by rw [← e24]; assumption⟩
            rw [zup_at, if_neg (by omega)]
            exact f2 l l0 l1 (fun ⟨j, j0, j1, q⟩ => hl ⟨j, j0, by omega, q⟩)
set_option maxRecDepth 100000 in
set_option maxHeartbeats 4000000 in
theorem am_X1_takeRow {σ : zS} {b : Int} {r : Int} {d : Int} {dd : Bool} {cnt : Int → Int → Int} (hcf : zCT σ cnt) (hcb : ∀ l r : Int, 0 ≤ cnt l r ∧ cnt l r ≤ 999) (hb : 0 ≤ b ∧ b + 26 ≤ 1092) (hd : d = 1 ∧ dd = true ∨ d = 0 ∧ dd = false) : zAM 10 [.inr (.inr (5, 0)), .inr (.inr (3, 0)), .inl b, .inl r, .inl d] σ (fun (v : Int) (u : zS) => zfr [29] σ u ∧ (∀ j : Int, (j < b ∨ b + 26 ≤ j) → u 29 j = σ 29 j) ∧ ∀ l : Int, 0 ≤ l → l < 26 → u 29 (b + l) = zFm cnt l r dd (σ 29 (b + l))) := by
  refine zam (by decide) (Nat.le_of_ble_eq_true rfl) ?_
  refine zwalk zmk_10 [(3, [true, true, true, true, true, true, false, false])] 2 ?_
  show zRuns 10 zX0 (fun (v : Int) (u : zS) => zfr [29] σ u ∧ (∀ j : Int, (j < b ∨ b + 26 ≤ j) → u 29 j = σ 29 j) ∧ ∀ l : Int, 0 ≤ l → l < 26 → u 29 (b + l) = zFm cnt l r dd (σ 29 (b + l))) 3 [some (.inr (.inr (5, 0))), some (.inr (.inr (3, 0))), some (.inl b), some (.inl r), some (.inl d), some (.inl (0 : Int)), none, none] [] σ
  have hcf1 := hcf.1
  exact lp_tr hcf hcb hb hd ((σ 3 3).toNat + 1) 0 σ (by omega) ⟨by omega, by omega⟩ zfr.rf (fun j _ => rfl) (fun l l0 l1 ⟨j, j0, j1, _⟩ => by omega) (fun l l0 l1 _ => rfl)
