/-! the class's countReading, teach -/
def zUQ (σ : zS) : Prop := ∀ i j : Int, 0 ≤ i → i < j → j < σ 3 3 → ¬ (σ 23 i = σ 23 j ∧ σ 24 i = σ 24 j)
/-- what the first n letters of a teaching did to the class's counts -/
def zTC (σ t : zS) (w rc : Nat → Int) (n : Nat) : Prop := (∀ j : Int, 0 ≤ j → j < σ 3 3 → t 22 (676 + j) = min 999 (σ 22 (676 + j) + zof w rc (σ 23 j) (σ 24 j) n)) ∧ (∀ a b : Int, 0 ≤ a → a < 26 → 0 ≤ b → b < 26 → t 22 (a * 26 + b) = min 999 (σ 22 (a * 26 + b) + zop w a b n)) ∧ ∀ x : Int, 676 + σ 3 3 ≤ x → t 22 x = σ 22 x
/-- the rows of the reading, from the first piece b of the ink on -/
def zRP (σ : zS) (w rc : Nat → Int) (at_ row : Nat → Int) (m : Nat) (b : Int) : Prop := ∀ k : Nat, k < m → (1 ≤ row k ∧ row k ≤ 3) ∧ (0 ≤ at_ k ∧ b + at_ k + row k ≤ σ 2 7) ∧ at_ (k + 1) = at_ k + row k ∧ rc k = zrc (row k) (σ 18 (b + at_ k)) (σ 18 (b + at_ k + 1)) (σ 18 (b + at_ k + 2)) ∧ ∃ j : Int, 0 ≤ j ∧ j < σ 3 3 ∧ σ 23 j = w k ∧ σ 24 j = rc k
theorem zTC_b {σ t : zS} {w rc : Nat → Int} {n : Nat} (h : zTC σ t w rc n) (hf3 : 0 ≤ σ 3 3 ∧ σ 3 3 ≤ 512) (hcr : ∀ j : Int, 0 ≤ j → j < 1188 → 0 ≤ σ 22 j ∧ σ 22 j ≤ 999) : ∀ j : Int, 0 ≤ j → j < 1188 → 0 ≤ t 22 j ∧ t 22 j ≤ 999 := fun j j0 j1 => by
  have h1 := hcr j j0 j1
  by_cases e : j < 676
  · have h2 := h.2.1 (j / 26) (j % 26) (by omega) (by omega) (by omega) (by omega)
    rw [show j / 26 * 26 + j % 26 = j by omega] at h2
    have h3 := zop_r (w := w) (l := j / 26) (r := j % 26) (n := n)
    omega
  · by_cases e2 : j < 676 + σ 3 3
    · have h2 := h.1 (j - 676) (by omega) (by omega)
      rw [show 676 + (j - 676) = j by omega] at h2
      have h3 := zof_r (w := w) (rc := rc) (l := σ 23 (j - 676)) (r := σ 24 (j - 676)) (n := n)
      omega
    · rw [h.2.2 j (by omega)]; exact h1
/-- the form of letter n -/
theorem zTC_form {σ t u : zS} {w rc : Nat → Int} {n : Nat} {j0 : Int} (hUQ : zUQ σ) (h : zTC σ t w rc n) (h0 : 0 ≤ j0 ∧ j0 < σ 3 3) (h1 : σ 23 j0 = w n ∧ σ 24 j0 = rc n) (hu : ∀ x : Int, u 22 x = if x = 676 + j0 then min 999 (t 22 (676 + j0) + 1) else t 22 x) : (∀ j : Int, 0 ≤ j → j < σ 3 3 → u 22 (676 + j) = min 999 (σ 22 (676 + j) + zof w rc (σ 23 j) (σ 24 j) (n + 1))) ∧ (∀ a b : Int, 0 ≤ a → a < 26 → 0 ≤ b → b < 26 → u 22 (a * 26 + b) = min 999 (σ 22 (a * 26 + b) + zop w a b n)) ∧ ∀ x : Int, 676 + σ 3 3 ≤ x → u 22 x = σ 22 x := by
  refine ⟨fun j a b => ?_, fun x y x0 x1 y0 y1 => ?_, fun x a => ?_⟩
  · have q := h.1 j a b
    have q2 := zof_r (w := w) (rc := rc) (l := σ 23 j) (r := σ 24 j) (n := n)
    rw [hu]
    simp only [zof]
    by_cases e : j = j0
    · subst e
      rw [if_pos rfl, if_pos ⟨h1.1.symm, h1.2.symm⟩]
      omega
    · have ne : ¬ (w n = σ 23 j ∧ rc n = σ 24 j) := fun z => by
        rcases Int.lt_or_gt_of_ne e with g | g
        · exact hUQ j j0 a g h0.2 ⟨by rw [h1.1]; exact z.1.symm, by rw [h1.2]; exact z.2.symm⟩
        · exact hUQ j0 j h0.1 g b ⟨by rw [h1.1]; exact z.1, by rw [h1.2]; exact z.2⟩
      rw [if_neg (by omega), if_neg ne, q]
      omega
  · rw [hu, if_neg (by omega)]; exact h.2.1 x y x0 x1 y0 y1
  · rw [hu, if_neg (by omega)]; exact h.2.2 x a
set_option maxRecDepth 100000 in
set_option maxHeartbeats 4000000 in
theorem lp_cr7 {w : Nat → Int} {rc : Nat → Int} {at_ : Nat → Int} {row : Nat → Int} {m : Nat} {b : Int} {σ : zS} (hw : zlet w m) (hm : m ≤ 12) (h40 : σ 4 0 = zlc w m) (h41 : σ 4 1 = (m : Int)) (hUQ : zUQ σ) (hf3 : 0 ≤ σ 3 3 ∧ σ 3 3 ≤ 512) (hcr : ∀ j : Int, 0 ≤ j → j < 1188 → 0 ≤ σ 22 j ∧ σ 22 j ≤ 999) (h38 : 0 < σ 3 8) (hu : 0 ≤ σ 3 6 ∧ σ 3 6 + 2 * (m : Int) ≤ 1024) (hl27 : 0 ≤ σ 2 7 ∧ σ 2 7 ≤ 40) (hs : ∀ j : Int, 0 ≤ j → j < σ 2 7 → 0 ≤ σ 18 j ∧ σ 18 j < 12) (hb : 0 ≤ b) (hRP : zRP σ w rc at_ row m b) (h34 : ∀ k : Nat, k < m → σ 34 (k : Int) = row k) (ha0 : at_ 0 = 0) : ∀ (n : Nat) (k : Nat) (d : Int) (t : zS), (m : Int) + 1 - (k : Int) < (n : Int) → (k ≤ m) → (0 < k → d = w (k - 1)) → (zLG 22 25 26 3 6 1188 σ t (2 * (k : Int))) → (zTC σ t w rc k) → zRuns 91 zX0 (fun (v : Int) (u : zS) => zLG 22 25 26 3 6 1188 σ u (2 * (m : Int)) ∧ zTC σ u w rc m) 7 [some (.inr (.inr (0, 0))), none, some (.inl (b + at_ k)), some (.inl d), some (.inl (k : Int)), none, none] [] t := by
  intro n
  induction n with
  | zero =>
    intro k d t hn k0 hd hL hT
    exfalso
    omega
  | succ n ih =>
    intro k d t hn k0 hd hL hT
    refine zwalk zmk_91 [(7, [true, false, true, true, true, false, false])] 3 ?_
    show (((t 4 (1 : Int)) ≤ (k : Int) → (zLG 22 25 26 3 6 1188 σ t (2 * (m : Int)) ∧ zTC σ t w rc m)) ∧ ((k : Int) < (t 4 (1 : Int)) → (∃ Rc : Int → zS → Prop, zAM 87 [.inr (.inl (t 4 (0 : Int))), .inl (k : Int)] t Rc ∧ ∀ (v1 : Int) (u1 : zS), zI v1 → Rc v1 u1 → ((0 ≤ (k : Int) ∧ (k : Int) < (12 : Int)) ∧ (∃ Rc : Int → zS → Prop, zAM 22 [.inr (.inr (2, 0)), .inl (b + at_ k), .inl (u1 34 (k : Int))] u1 Rc ∧ ∀ (v2 : Int) (u2 : zS), zI v2 → Rc v2 u2 → (∃ Rc : Int → zS → Prop, zAM 0 [.inr (.inr (3, 0)), .inl v1, .inl v2] u2 Rc ∧ ∀ (v3 : Int) (u3 : zS), zI v3 → Rc v3 u3 → (∃ Rc : Int → zS → Prop, zAM 2 [.inr (.inr (3, 0)), .inl v3, .inl (1 : Int)] u3 Rc ∧ ∀ (v4 : Int) (u4 : zS), zI v4 → Rc v4 u4 → (((k : Int) ≤ 0 → (zI ((b + at_ k) + (u1 34 (k : Int))) ∧ (zI ((k : Int) + (1 : Int)) ∧ zRuns 91 zX0 (fun (v : Int) (u : zS) => zLG 22 25 26 3 6 1188 σ u (2 * (m : Int)) ∧ zTC σ u w rc m) 7 [some (.inr (.inr (0, 0))), none, some (.inl ((b + at_ k) + (u1 34 (k : Int)))), some (.inl v1), some (.inl ((k : Int) + (1 : Int))), none, none] [] u4))) ∧ (0 < (k : Int) → (∃ Rc : Int → zS → Prop, zAM 85 [.inl d, .inl v1] u4 Rc ∧ ∀ (v5 : Int) (u5 : zS), zI v5 → Rc v5 u5 → (∃ Rc : Int → zS → Prop, zAM 2 [.inr (.inr (3, 0)), .inl v5, .inl (1 : Int)] u5 Rc ∧ ∀ (v6 : Int) (u6 : zS), zI v6 → Rc v6 u6 → (zI ((b + at_ k) + (u1 34 (k : Int))) ∧ (zI ((k : Int) + (1 : Int)) ∧ zRuns 91 zX0 (fun (v : Int) (u : zS) => zLG 22 25 26 3 6 1188 σ u (2 * (m : Int)) ∧ zTC σ u w rc m) 7 [some (.inr (.inr (0, 0))), none, some (.inl ((b + at_ k) + (u1 34 (k : Int)))), some (.inl v1), some (.inl ((k : Int) + (1 : Int))), none, none] [] u6)))))))))))))
    have hz9 := zlc_lt hw hm
    have e4 : t 4 = σ 4 := hL.1 4 (by decide)
    have e40 : t 4 0 = zlc w m := by rw [e4]; exact h40
    have e41 : t 4 1 = (m : Int) := by rw [e4]; exact h41
    have e34 : t 34 = σ 34 := hL.1 34 (by decide)
    have e18 : t 18 = σ 18 := hL.1 18 (by decide)
    have e2 : t 2 = σ 2 := hL.1 2 (by decide)
    have e23 : t 23 = σ 23 := hL.1 23 (by decide)
    have e24 : t 24 = σ 24 := hL.1 24 (by decide)
    have e27 : t 2 7 = σ 2 7 := by rw [e2]
    have e33 : t 3 3 = σ 3 3 := hL.2.1 3 (by decide)
    have e38 : t 3 8 = σ 3 8 := hL.2.1 8 (by decide)
    have hu6 := hL.2.2.1
    have hkm : (k : Int) < t 4 1 → k < m := fun q => by rw [e41] at q; omega
    have hrp := fun q => hRP k (hkm q)
    have h34t : (k : Int) < t 4 1 → t 34 (k : Int) = row k := fun q => by rw [e34]; exact h34 k (hkm q)
    have hcb := zTC_b hT hf3 hcr
    have hwk := fun q => hw k (hkm q)
    refine ⟨?_, ?_⟩
    · intro h1
      have ek : k = m := by omega
      rw [ek] at hL hT
      exact ⟨hL, hT⟩
    · intro h2
      have q8 := hkm (by assumption)
      rw [e40]
      refine ⟨_, am_X8_letterAt (hz9) (by omega), ?_⟩
      intro v1 u1 hv1
      rintro ⟨rfl, ev1⟩
      obtain ⟨hv1a, hv1b⟩ := hv1
      have el : v1 = w k := by rw [← ev1, zdg_lc hw hm (by omega) (by omega), if_pos (by omega), Int.toNat_natCast]; omega
      subst el
      refine ⟨by ((have q8 := hkm (by assumption); omega)), ?_⟩
      have q7 := hrp (by assumption)
      rw [h34t (by assumption)]
      refine ⟨_, am_X2_rowCodeAt (by rw [e27]; omega) (q7.1) (fun j a0 a1 => by rw [e18]; exact hs j (by omega) (by omega)), ?_⟩
      intro v2 u2 hv2
      rintro ⟨rfl, ev2⟩
      obtain ⟨hv2a, hv2b⟩ := hv2
      rw [e18, ← q7.2.2.2.1] at ev2
      subst ev2
      refine ⟨_, am_X0_slotOf (by omega), ?_⟩
      intro v3 u3 hv3
      intro kv3
      obtain ⟨hv3a, hv3b⟩ := hv3
      obtain ⟨j0, ja, jb, jc, jd⟩ := (hrp (by assumption)).2.2.2.2
      have ev3 : v3 = 676 + j0 := by
        rcases kv3.2 with ⟨j, q0, q1, q2, q3, q4⟩ | ⟨q0, q1⟩
        · rw [e33] at q1
          rw [e23] at q2
          rw [e24] at q3
          have jj : j = j0 := by
            rcases Int.lt_trichotomy j j0 with g | g | g
            · exact absurd ⟨by rw [q2, jc], by rw [q3, jd]⟩ (hUQ j j0 q0 g jb)
            · exact g
            · exact absurd ⟨by rw [q2, jc], by rw [q3, jd]⟩ (hUQ j0 j ja g q1)
          rw [q4, jj]
        · exact absurd ⟨by rw [e23]; exact jc, by rw [e24]; exact jd⟩ (q1 j0 ja (by omega))
      obtain rfl := kv3.1
      subst ev3
      refine ⟨_, am_X0_raise (by omega) (by omega) (hcb _ (by omega) (by omega)) (by omega), ?_⟩
      intro v4 u4 hv4
      intro kv4
      obtain ⟨hv4a, hv4b⟩ := hv4
      have eu : zrsC t (676 + j0) 1 = u4 := kv4.1
      have hlg := zrsC_log (σ := t) (s := 676 + j0) (n := 1) (by omega) (by omega) (by omega)
      have hgg := fun x => zrsC_g (σ := t) (s := 676 + j0) (n := 1) (x := x)
      rw [eu] at hlg hgg
      have htf := zTC_form hUQ hT ⟨ja, jb⟩ ⟨jc, jd⟩ hgg
      have hL2 := hL.trans hlg
      refine ⟨?_, ?_⟩
      · intro h3
        refine ⟨by ((have q8 := hrp (by assumption); exact ⟨by omega, by omega⟩)), ?_⟩
        refine ⟨by ((have q8 := hrp (by assumption); exact ⟨by omega, by omega⟩)), ?_⟩
        have hI := ih (k + 1) (w k) u4 (by omega) (by omega) (fun _ => rfl) (hL2.le (by omega)) ⟨htf.1, fun x y x0 x1 y0 y1 => ?_, htf.2.2⟩
        · rw [(hrp (by assumption)).2.2.1, ← Int.add_assoc] at hI
          exact hI
        · rw [htf.2.1 x y x0 x1 y0 y1]
          simp only [zop]
          rw [if_neg (by omega), Int.add_zero]
      · intro h4
        have hdd := hd (by omega)
        have hwd := hw (k - 1) (by omega)
        rw [← hdd] at hwd
        have hwk2 := hwk (by assumption)
        refine ⟨_, am_X8_pairSlot (by omega), ?_⟩
        intro v5 u5 hv5
        rintro ⟨rfl, ev5⟩
        obtain ⟨hv5a, hv5b⟩ := hv5
        subst ev5
        refine ⟨_, am_X0_raise (by omega) (by omega) (by (have q3 := htf.2.1 d (w k) (by omega) (by omega) (by omega) (by omega); have q4 := hcr (d * 26 + w k) (by omega) (by omega); have q5 := zop_r (w := w) (l := d) (r := w k) (n := k); omega)) (by (have q3 := hL2.2.2.1; omega)), ?_⟩
        intro v6 u6 hv6
        intro kv6
        obtain ⟨hv6a, hv6b⟩ := hv6
        have eu2 : zrsC _ (d * 26 + w k) 1 = u6 := kv6.1
        have hlg2 := zrsC_log (s := d * 26 + w k) (n := 1) (by rw [hL2.2.1 8 (by decide)]; exact h38) (by have q3 := hL2.2.2.1; omega) (by omega) |> fun z => eu2 ▸ z
        have hgg2 : ∀ x : Int, u6 22 x = if x = d * 26 + w k then min 999 (u4 22 (d * 26 + w k) + 1) else u4 22 x := fun x => by rw [← eu2]; exact zrsC_g
        have hL3 := hL2.trans hlg2
        refine ⟨by ((have q8 := hrp (by assumption); exact ⟨by omega, by omega⟩)), ?_⟩
        refine ⟨by ((have q8 := hrp (by assumption); exact ⟨by omega, by omega⟩)), ?_⟩
        have hI := ih (k + 1) (w k) _ (by omega) (by omega) (fun _ => rfl) (hL3.le (by omega)) ⟨fun j a0 a1 => ?_, fun x y x0 x1 y0 y1 => ?_, fun x a0 => ?_⟩
        · rw [(hrp (by assumption)).2.2.1, ← Int.add_assoc] at hI
          exact hI
        · rw [hgg2, if_neg (by omega)]; exact htf.1 j a0 a1
        · rw [hgg2, htf.2.1 x y x0 x1 y0 y1, htf.2.1 d (w k) (by omega) (by omega) (by omega) (by omega)]
          have q6 := zop_r (w := w) (l := x) (r := y) (n := k)
          simp only [zop]
          by_cases e : x * 26 + y = d * 26 + w k
          · have e1 : x = d ∧ y = w k := by omega
            rw [if_pos e, if_pos ⟨by omega, by rw [e1.1, hdd], e1.2.symm⟩, e1.1, e1.2]
            rw [e1.1, e1.2] at q6
            omega
          · rw [if_neg e, if_neg (fun z => e (by rw [hdd, z.2.1, z.2.2]))]
            omega
        · rw [hgg2, if_neg (by omega)]; exact htf.2.2 x a0
set_option maxRecDepth 100000 in
set_option maxHeartbeats 4000000 in
theorem am_X8_countReading {σ : zS} {w : Nat → Int} {rc : Nat → Int} {at_ : Nat → Int} {row : Nat → Int} {m : Nat} {b : Int} (hw : zlet w m) (hm : m ≤ 12) (h40 : σ 4 0 = zlc w m) (h41 : σ 4 1 = (m : Int)) (hUQ : zUQ σ) (hf3 : 0 ≤ σ 3 3 ∧ σ 3 3 ≤ 512) (hcr : ∀ j : Int, 0 ≤ j → j < 1188 → 0 ≤ σ 22 j ∧ σ 22 j ≤ 999) (h38 : 0 < σ 3 8) (hu : 0 ≤ σ 3 6 ∧ σ 3 6 + 2 * (m : Int) ≤ 1024) (hl27 : 0 ≤ σ 2 7 ∧ σ 2 7 ≤ 40) (hs : ∀ j : Int, 0 ≤ j → j < σ 2 7 → 0 ≤ σ 18 j ∧ σ 18 j < 12) (hb : 0 ≤ b) (hRP : zRP σ w rc at_ row m b) (h34 : ∀ k : Nat, k < m → σ 34 (k : Int) = row k) (ha0 : at_ 0 = 0) : zAM 91 [.inr (.inr (0, 0)), .inl b] σ (fun (v : Int) (u : zS) => zLG 22 25 26 3 6 1188 σ u (2 * (m : Int)) ∧ zTC σ u w rc m) := by
  refine zam (by decide) (Nat.le_of_ble_eq_true rfl) ?_
  refine zwalk zmk_91 [(7, [true, false, true, true, true, false, false])] 2 ?_
  show zRuns 91 zX0 (fun (v : Int) (u : zS) => zLG 22 25 26 3 6 1188 σ u (2 * (m : Int)) ∧ zTC σ u w rc m) 7 [some (.inr (.inr (0, 0))), none, some (.inl b), some (.inl (0 : Int)), some (.inl (0 : Int)), none, none] [] σ
  have hI := lp_cr7 hw hm h40 h41 hUQ hf3 hcr h38 hu hl27 hs hb hRP h34 ha0 (m + 2) 0 0 σ (by omega) (by omega) (fun q => by omega) zLG.rf ⟨fun j a0 a1 => ?_, fun x y x0 x1 y0 y1 => ?_, fun x a0 => rfl⟩
  · rw [ha0, Int.add_zero] at hI
    exact hI
  · have := hcr (676 + j) (by omega) (by omega)
    simp only [zof]; omega
  · have := hcr (x * 26 + y) (by omega) (by omega)
    simp only [zop]; omega
