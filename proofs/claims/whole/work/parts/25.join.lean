/-! dots joined -/
def zdn (ws : Int → Int) : Nat → Nat
  | 0 => 0
  | k + 1 => zdn ws k + (if ws k = 12 then 1 else 0)
def zdx (wx ws : Int → Int) : Nat → Nat → Int
  | 0 => fun _ => 0
  | k + 1 => if ws k = 12 then fun d => if d = zdn ws k then wx k else zdx wx ws k d else zdx wx ws k
theorem zdn_le (ws : Int → Int) : ∀ k : Nat, zdn ws k ≤ k
  | 0 => Nat.le_refl _
  | k + 1 => by
    have := zdn_le ws k
    simp only [zdn]
    split <;> omega
theorem zdn_pn (ws : Int → Int) : ∀ k : Nat, (zdn ws k : Int) = k - zpn ws k
  | 0 => rfl
  | k + 1 => by
    have := zdn_pn ws k
    simp only [zdn, zpn]
    split <;> omega
theorem zdx_at {wx ws : Int → Int} {k : Nat} (h : ws k = 12) : ∀ n : Nat, k < n → zdx wx ws n (zdn ws k) = wx k ∧ zdn ws k < zdn ws n
  | 0, hk => absurd hk (by omega)
  | n + 1, hk => by
    by_cases e : k = n
    · subst e
      simp only [zdx, zdn, if_pos h, if_true]
      exact ⟨trivial, by omega⟩
    · obtain ⟨a, b⟩ := zdx_at h n (by omega)
      simp only [zdx, zdn]
      by_cases c : ws n = 12
      · simp only [if_pos c]
        rw [if_neg (by omega)]
        exact ⟨a, by omega⟩
      · simp only [if_neg c]
        exact ⟨a, by omega⟩
def zjl (tf : Int → Int) (DX : Nat → Int) : Nat → Int
  | 0 => 0
  | d + 1 => zjl tf DX d + (if tf (DX d) < 0 then 1 else 0)
def zji (tf : Int → Int) (DX : Nat → Int) (j : Int) : Nat → Int
  | 0 => 0
  | d + 1 => zji tf DX j d + (if tf (DX d) = j then 1 else 0)
def zjo (tf : Int → Int) (nr : Int → Int → Int) (DX : Nat → Int) (k : Int) : Nat → Int
  | 0 => 0
  | d + 1 => zjo tf nr DX k d + (if 0 ≤ tf (DX d) ∧ nr (tf (DX d)) (DX d) = k then 1 else 0)
theorem zj_r (tf : Int → Int) (nr : Int → Int → Int) (DX : Nat → Int) (k : Int) : ∀ d : Nat, (0 ≤ zjl tf DX d ∧ zjl tf DX d ≤ d) ∧ (0 ≤ zji tf DX k d ∧ zji tf DX k d ≤ d) ∧ (0 ≤ zjo tf nr DX k d ∧ zjo tf nr DX k d ≤ d)
  | 0 => by simp [zjl, zji, zjo]
  | d + 1 => by
    obtain ⟨a, b, c⟩ := zj_r tf nr DX k d
    simp only [zjl, zji, zjo]
    refine ⟨?_, ?_, ?_⟩
    · split <;> omega
    · split <;> omega
    · split <;> omega
def ztf (x f : Int → Int) (n p : Int) : Int := zfi (zIn x f p) n.toNat
def znr (x f : Int → Int) (t p : Int) : Int := zne x p (f t) (f (t + 1) - f t).toNat
theorem zLF.frame {σ s : zS} (h : zLF σ) (e10 : s 2 10 = σ 2 10) (e17 : s 17 = σ 17) (e20 : s 20 = σ 20) : zLF s := by
  unfold zLF at h ⊢
  rw [e10, e17, e20]
  exact h
theorem zLF.le {σ : zS} (h : zLF σ) : ∀ {i j : Int}, 0 ≤ i → i ≤ j → j ≤ σ 2 10 → σ 20 i ≤ σ 20 j := by
  intro i j j0 j1 j2
  obtain ⟨d, hd⟩ : ∃ d : Nat, i + (d : Int) = j := ⟨(j - i).toNat, by omega⟩
  induction d generalizing i with
  | zero => rw [show i = j by omega]; exact Int.le_refl _
  | succ d ih2 =>
    have := ih2 (i := i + 1) (by omega) (by omega) (by omega)
    have := h.2.2.1 i j0 (by omega)
    omega
set_option maxRecDepth 100000 in
set_option maxHeartbeats 4000000 in
theorem lp_join {σ : zS} {n : Nat} (hL : zLF σ) (hn : σ 2 2 = (n : Int)) (hn40 : n ≤ 40) (hw : ∀ j : Int, 0 ≤ j → j < n → 0 ≤ σ 15 j ∧ σ 15 j ≤ 2000) : ∀ (m k : Nat) (s : zS), k + m = n → zfr [2, 19, 21] σ s → (∀ j : Int, ¬ j = 11 → s 2 j = σ 2 j) → (s 2 11 = zjl (ztf (σ 17) (σ 20) (σ 2 10)) (zdx (σ 15) (σ 16) n) (zdn (σ 16) k) ∧ (∀ j : Int, 0 ≤ j → j < σ 2 10 → s 21 j = zji (ztf (σ 17) (σ 20) (σ 2 10)) (zdx (σ 15) (σ 16) n) j (zdn (σ 16) k)) ∧ ∀ j : Int, 0 ≤ j → j < σ 20 (σ 2 10) → s 19 j = zjo (ztf (σ 17) (σ 20) (σ 2 10)) (znr (σ 17) (σ 20)) (zdx (σ 15) (σ 16) n) j (zdn (σ 16) k)) → zRuns 18 zX0 (fun (v : Int) (u : zS) => zfr [2, 19, 21] σ u ∧ (∀ j : Int, ¬ j = 11 → u 2 j = σ 2 j) ∧ u 2 11 = zjl (ztf (σ 17) (σ 20) (σ 2 10)) (zdx (σ 15) (σ 16) n) (zdn (σ 16) n) ∧ (∀ j : Int, 0 ≤ j → j < σ 2 10 → u 21 j = zji (ztf (σ 17) (σ 20) (σ 2 10)) (zdx (σ 15) (σ 16) n) j (zdn (σ 16) n)) ∧ ∀ j : Int, 0 ≤ j → j < σ 20 (σ 2 10) → u 19 j = zjo (ztf (σ 17) (σ 20) (σ 2 10)) (znr (σ 17) (σ 20)) (zdx (σ 15) (σ 16) n) j (zdn (σ 16) n)) 7 [some (.inr (.inr (2, 0))), some (.inl (k : Int)), none] [] s := by
  intro m
  induction m with
  | zero =>
    intro k s hk hf i2 hi
    have e2 := i2 2 (by decide)
    obtain rfl : n = k := by omega
    have hlt : ¬ (n : Int) < s 2 2 := by omega
    refine zwalk zmk_18 [(7, [true, true, false])] 3 ?_
    show (((s 2 (2 : Int)) ≤ (n : Int) → (zfr [2, 19, 21] σ s ∧ (∀ j : Int, ¬ j = 11 → s 2 j = σ 2 j) ∧ s 2 11 = zjl (ztf (σ 17) (σ 20) (σ 2 10)) (zdx (σ 15) (σ 16) n) (zdn (σ 16) n) ∧ (∀ j : Int, 0 ≤ j → j < σ 2 10 → s 21 j = zji (ztf (σ 17) (σ 20) (σ 2 10)) (zdx (σ 15) (σ 16) n) j (zdn (σ 16) n)) ∧ ∀ j : Int, 0 ≤ j → j < σ 20 (σ 2 10) → s 19 j = zjo (ztf (σ 17) (σ 20) (σ 2 10)) (znr (σ 17) (σ 20)) (zdx (σ 15) (σ 16) n) j (zdn (σ 16) n))) ∧ ((n : Int) < (s 2 (2 : Int)) → ((0 ≤ (n : Int) ∧ (n : Int) < (40 : Int)) ∧ ((¬ (s 16 (n : Int)) = (12 : Int) → (zI ((n : Int) + (1 : Int)) ∧ zRuns 18 zX0 (fun (v : Int) (u : zS) => zfr [2, 19, 21] σ u ∧ (∀ j : Int, ¬ j = 11 → u 2 j = σ 2 j) ∧ u 2 11 = zjl (ztf (σ 17) (σ 20) (σ 2 10)) (zdx (σ 15) (σ 16) n) (zdn (σ 16) n) ∧ (∀ j : Int, 0 ≤ j → j < σ 2 10 → u 21 j = zji (ztf (σ 17) (σ 20) (σ 2 10)) (zdx (σ 15) (σ 16) n) j (zdn (σ 16) n)) ∧ ∀ j : Int, 0 ≤ j → j < σ 20 (σ 2 10) → u 19 j = zjo (ztf (σ 17) (σ 20) (σ 2 10)) (znr (σ 17) (σ 20)) (zdx (σ 15) (σ 16) n) j (zdn (σ 16) n)) 7 [some (.inr (.inr (2, 0))), some (.inl ((n : Int) + (1 : Int))), none] [] s)) ∧ ((s 16 (n : Int)) = (12 : Int) → ((0 ≤ (n : Int) ∧ (n : Int) < (40 : Int)) ∧ (∃ Rc : Int → zS → Prop, zAM 19 [.inr (.inr (2, 0)), .inl (s 15 (n : Int))] s Rc ∧ ∀ (v1 : Int) (u1 : zS), zI v1 → Rc v1 u1 → ((¬ v1 = (-1 : Int) → ((0 ≤ v1 ∧ v1 < (40 : Int)) ∧ (zI ((u1 21 v1) + (1 : Int)) ∧ ((0 ≤ v1 ∧ v1 < (40 : Int)) ∧ ((0 ≤ (n : Int) ∧ (n : Int) < (40 : Int)) ∧ (∃ Rc : Int → zS → Prop, zAM 20 [.inr (.inr (2, 0)), .inl v1, .inl (u1 15 (n : Int))] (zup u1 21 v1 ((u1 21 v1) + (1 : Int))) Rc ∧ ∀ (v2 : Int) (u2 : zS), zI v2 → Rc v2 u2 → ((0 ≤ v2 ∧ v2 < (40 : Int)) ∧ (zI ((u2 19 v2) + (1 : Int)) ∧ ((0 ≤ v2 ∧ v2 < (40 : Int)) ∧ (zI ((n : Int) + (1 : Int)) ∧ zRuns 18 zX0 (fun (v : Int) (u : zS) => zfr [2, 19, 21] σ u ∧ (∀ j : Int, ¬ j = 11 → u 2 j = σ 2 j) ∧ u 2 11 = zjl (ztf (σ 17) (σ 20) (σ 2 10)) (zdx (σ 15) (σ 16) n) (zdn (σ 16) n) ∧ (∀ j : Int, 0 ≤ j → j < σ 2 10 → u 21 j = zji (ztf (σ 17) (σ 20) (σ 2 10)) (zdx (σ 15) (σ 16) n) j (zdn (σ 16) n)) ∧ ∀ j : Int, 0 ≤ j → j < σ 20 (σ 2 10) → u 19 j = zjo (ztf (σ 17) (σ 20) (σ 2 10)) (znr (σ 17) (σ 20)) (zdx (σ 15) (σ 16) n) j (zdn (σ 16) n)) 7 [some (.inr (.inr (2, 0))), some (.inl ((n : Int) + (1 : Int))), none] [] (zup u2 19 v2 ((u2 19 v2) + (1 : Int))))))))))))) ∧ (v1 = (-1 : Int) → (zI ((u1 2 (11 : Int)) + (1 : Int)) ∧ (zI ((n : Int) + (1 : Int)) ∧ zRuns 18 zX0 (fun (v : Int) (u : zS) => zfr [2, 19, 21] σ u ∧ (∀ j : Int, ¬ j = 11 → u 2 j = σ 2 j) ∧ u 2 11 = zjl (ztf (σ 17) (σ 20) (σ 2 10)) (zdx (σ 15) (σ 16) n) (zdn (σ 16) n) ∧ (∀ j : Int, 0 ≤ j → j < σ 2 10 → u 21 j = zji (ztf (σ 17) (σ 20) (σ 2 10)) (zdx (σ 15) (σ 16) n) j (zdn (σ 16) n)) ∧ ∀ j : Int, 0 ≤ j → j < σ 20 (σ 2 10) → u 19 j = zjo (ztf (σ 17) (σ 20) (σ 2 10)) (znr (σ 17) (σ 20)) (zdx (σ 15) (σ 16) n) j (zdn (σ 16) n)) 7 [some (.inr (.inr (2, 0))), some (.inl ((n : Int) + (1 : Int))), none] [] (zup u1 2 (11 : Int) ((u1 2 (11 : Int)) + (1 : Int))))))))))))))
    exact ⟨fun _ => ⟨hf, i2, hi⟩, fun q => absurd q hlt⟩
  | succ m ih =>
    intro k s hk hf i2 hi
    obtain ⟨i11, i21, i19⟩ := hi
    have e2 := i2 2 (by decide)
    have e10 := i2 10 (by decide)
    have e15 : s 15 = σ 15 := hf 15 (by decide)
    have e16 : s 16 = σ 16 := hf 16 (by decide)
    have e17 : s 17 = σ 17 := hf 17 (by decide)
    have e20 : s 20 = σ 20 := hf 20 (by decide)
    have hLs : zLF s := hL.frame e10 e17 e20
    have hwk := hw k (by omega) (by omega)
    have hdk := zdn_le (σ 16) k
    obtain ⟨l0, l1, l2, l3⟩ := hL
    obtain ⟨q11, -, -⟩ := zj_r (ztf (σ 17) (σ 20) (σ 2 10)) (znr (σ 17) (σ 20)) (zdx (σ 15) (σ 16) n) 0 (zdn (σ 16) k)
    have ec : ((k + 1 : Nat) : Int) = (k : Int) + 1 := by omega
    refine zwalk zmk_18 [(7, [true, true, false])] 3 ?_
    show (((s 2 (2 : Int)) ≤ (k : Int) → (zfr [2, 19, 21] σ s ∧ (∀ j : Int, ¬ j = 11 → s 2 j = σ 2 j) ∧ s 2 11 = zjl (ztf (σ 17) (σ 20) (σ 2 10)) (zdx (σ 15) (σ 16) n) (zdn (σ 16) n) ∧ (∀ j : Int, 0 ≤ j → j < σ 2 10 → s 21 j = zji (ztf (σ 17) (σ 20) (σ 2 10)) (zdx (σ 15) (σ 16) n) j (zdn (σ 16) n)) ∧ ∀ j : Int, 0 ≤ j → j < σ 20 (σ 2 10) → s 19 j = zjo (ztf (σ 17) (σ 20) (σ 2 10)) (znr (σ 17) (σ 20)) (zdx (σ 15) (σ 16) n) j (zdn (σ 16) n))) ∧ ((k : Int) < (s 2 (2 : Int)) → ((0 ≤ (k : Int) ∧ (k : Int) < (40 : Int)) ∧ ((¬ (s 16 (k : Int)) = (12 : Int) → (zI ((k : Int) + (1 : Int)) ∧ zRuns 18 zX0 (fun (v : Int) (u : zS) => zfr [2, 19, 21] σ u ∧ (∀ j : Int, ¬ j = 11 → u 2 j = σ 2 j) ∧ u 2 11 = zjl (ztf (σ 17) (σ 20) (σ 2 10)) (zdx (σ 15) (σ 16) n) (zdn (σ 16) n) ∧ (∀ j : Int, 0 ≤ j → j < σ 2 10 → u 21 j = zji (ztf (σ 17) (σ 20) (σ 2 10)) (zdx (σ 15) (σ 16) n) j (zdn (σ 16) n)) ∧ ∀ j : Int, 0 ≤ j → j < σ 20 (σ 2 10) → u 19 j = zjo (ztf (σ 17) (σ 20) (σ 2 10)) (znr (σ 17) (σ 20)) (zdx (σ 15) (σ 16) n) j (zdn (σ 16) n)) 7 [some (.inr (.inr (2, 0))), some (.inl ((k : Int) + (1 : Int))), none] [] s)) ∧ ((s 16 (k : Int)) = (12 : Int) → ((0 ≤ (k : Int) ∧ (k : Int) < (40 : Int)) ∧ (∃ Rc : Int → zS → Prop, zAM 19 [.inr (.inr (2, 0)), .inl (s 15 (k : Int))] s Rc ∧ ∀ (v1 : Int) (u1 : zS), zI v1 → Rc v1 u1 → ((¬ v1 = (-1 : Int) → ((0 ≤ v1 ∧ v1 < (40 : Int)) ∧ (zI ((u1 21 v1) + (1 : Int)) ∧ ((0 ≤ v1 ∧ v1 < (40 : Int)) ∧ ((0 ≤ (k : Int) ∧ (k : Int) < (40 : Int)) ∧ (∃ Rc : Int → zS → Prop, zAM 20 [.inr (.inr (2, 0)), .inl v1, .inl (u1 15 (k : Int))] (zup u1 21 v1 ((u1 21 v1) + (1 : Int))) Rc ∧ ∀ (v2 : Int) (u2 : zS), zI v2 → Rc v2 u2 → ((0 ≤ v2 ∧ v2 < (40 : Int)) ∧ (zI ((u2 19 v2) + (1 : Int)) ∧ ((0 ≤ v2 ∧ v2 < (40 : Int)) ∧ (zI ((k : Int) + (1 : Int)) ∧ zRuns 18 zX0 (fun (v : Int) (u : zS) => zfr [2, 19, 21] σ u ∧ (∀ j : Int, ¬ j = 11 → u 2 j = σ 2 j) ∧ u 2 11 = zjl (ztf (σ 17) (σ 20) (σ 2 10)) (zdx (σ 15) (σ 16) n) (zdn (σ 16) n) ∧ (∀ j : Int, 0 ≤ j → j < σ 2 10 → u 21 j = zji (ztf (σ 17) (σ 20) (σ 2 10)) (zdx (σ 15) (σ 16) n) j (zdn (σ 16) n)) ∧ ∀ j : Int, 0 ≤ j → j < σ 20 (σ 2 10) → u 19 j = zjo (ztf (σ 17) (σ 20) (σ 2 10)) (znr (σ 17) (σ 20)) (zdx (σ 15) (σ 16) n) j (zdn (σ 16) n)) 7 [some (.inr (.inr (2, 0))), some (.inl ((k : Int) + (1 : Int))), none] [] (zup u2 19 v2 ((u2 19 v2) + (1 : Int))))))))))))) ∧ (v1 = (-1 : Int) → (zI ((u1 2 (11 : Int)) + (1 : Int)) ∧ (zI ((k : Int) + (1 : Int)) ∧ zRuns 18 zX0 (fun (v : Int) (u : zS) => zfr [2, 19, 21] σ u ∧ (∀ j : Int, ¬ j = 11 → u 2 j = σ 2 j) ∧ u 2 11 = zjl (ztf (σ 17) (σ 20) (σ 2 10)) (zdx (σ 15) (σ 16) n) (zdn (σ 16) n) ∧ (∀ j : Int, 0 ≤ j → j < σ 2 10 → u 21 j = zji (ztf (σ 17) (σ 20) (σ 2 10)) (zdx (σ 15) (σ 16) n) j (zdn (σ 16) n)) ∧ ∀ j : Int, 0 ≤ j → j < σ 20 (σ 2 10) → u 19 j = zjo (ztf (σ 17) (σ 20) (σ 2 10)) (znr (σ 17) (σ 20)) (zdx (σ 15) (σ 16) n) j (zdn (σ 16) n)) 7 [some (.inr (.inr (2, 0))), some (.inl ((k : Int) + (1 : Int))), none] [] (zup u1 2 (11 : Int) ((u1 2 (11 : Int)) + (1 : Int))))))))))))))
    rw [e15, e16]
    refine ⟨?_, ?_⟩
    · intro h1
      exfalso; omega
    · intro h2
      refine ⟨by (first | exact ⟨by omega, by omega⟩), ?_⟩
      refine ⟨?_, ?_⟩
      · intro h3
        refine ⟨by (first | exact ⟨by omega, by omega⟩), ?_⟩
        have hd : ¬ σ 16 (k : Int) = 12 := by assumption
        have hz : zdn (σ 16) (k + 1) = zdn (σ 16) k := by simp only [zdn, if_neg hd]; omega
        rw [← ec]
        refine ih (k + 1) _ (by omega) hf i2 ?_
        rw [hz]
        exact ⟨i11, i21, i19⟩
      · intro h4
        refine ⟨by (first | exact ⟨by omega, by omega⟩), ?_⟩
        refine ⟨_, am_X2_inkUnder (hLs) (hwk), ?_⟩
        intro v1 u1 hv1
        rintro ⟨rfl, ev1⟩
        obtain ⟨hv1a, hv1b⟩ := hv1
        rw [e17, e20, e10] at ev1
        have hr := zfi_r (P := zIn (σ 17) (σ 20) (σ 15 (k : Int))) (σ 2 10).toNat
        rw [ev1] at hr
        have etf : (ztf (σ 17) (σ 20) (σ 2 10)) (σ 15 (k : Int)) = v1 := ev1
        have q21 := i21 v1
        have r21 := (zj_r (ztf (σ 17) (σ 20) (σ 2 10)) (znr (σ 17) (σ 20)) (zdx (σ 15) (σ 16) n) v1 (zdn (σ 16) k)).2.1
        rw [e15]
        refine ⟨?_, ?_⟩
        · intro h5
          refine ⟨by (first | exact ⟨by omega, by omega⟩), ?_⟩
          refine ⟨by (first | exact ⟨by omega, by omega⟩), ?_⟩
          refine ⟨by (first | exact ⟨by omega, by omega⟩), ?_⟩
          refine ⟨by (first | exact ⟨by omega, by omega⟩), ?_⟩
          have X20 : (zup s 21 v1 (s 21 v1 + 1)) 20 = σ 20 := e20
          have X17 : (zup s 21 v1 (s 21 v1 + 1)) 17 = σ 17 := e17
          refine ⟨_, am_X2_nearestPiece (by omega) (rfl) (rfl) (by rw [X20]; exact l2 _ (by omega) (by omega)) (hwk) (by
    intro j q1 q2
    have := zLF.le ⟨l0, l1, l2, l3⟩ (i := v1 + 1) (j := σ 2 10) (by omega) (by omega) (by omega)
    rw [X20] at q1 q2
    have := l2 v1 (by omega) (by omega)
    rw [X17]
    exact l3 j (by omega) (by omega) (by omega)), ?_⟩
          intro v2 u2 hv2
          rintro ⟨rfl, ev2⟩
          obtain ⟨hv2a, hv2b⟩ := hv2
          rw [X17, X20] at ev2
          have enr : (znr (σ 17) (σ 20)) v1 (σ 15 (k : Int)) = v2 := ev2
          have hz9 := zne_r (x := σ 17) (p := σ 15 (k : Int)) (a := σ 20 v1) (σ 20 (v1 + 1) - σ 20 v1).toNat
          rw [ev2] at hz9
          have hl2 := l2 v1 (by omega) (by omega)
          have hle := zLF.le ⟨l0, l1, l2, l3⟩ (i := v1 + 1) (j := σ 2 10) (by omega) (by omega) (by omega)
          have q19 := i19 v2 (by omega) (by omega)
          have r19 := (zj_r (ztf (σ 17) (σ 20) (σ 2 10)) (znr (σ 17) (σ 20)) (zdx (σ 15) (σ 16) n) v2 (zdn (σ 16) k)).2.2
          have X19 : (zup s 21 v1 (s 21 v1 + 1)) 19 = s 19 := rfl
          rw [X19]
          refine ⟨by (first | exact ⟨by omega, by omega⟩), ?_⟩
          refine ⟨by (first | exact ⟨by omega, by omega⟩), ?_⟩
          refine ⟨by (first | exact ⟨by omega, by omega⟩), ?_⟩
          refine ⟨by (first | exact ⟨by omega, by omega⟩), ?_⟩
          have hd : σ 16 (k : Int) = 12 := by assumption
          have hdx := zdx_at (wx := σ 15) hd n (by omega)
          have hz : zdn (σ 16) (k + 1) = zdn (σ 16) k + 1 := by simp only [zdn, if_pos hd]
          rw [← ec]
          refine ih (k + 1) _ (by omega) ((hf.up (c := 21) (by decide)).up (c := 19) (by decide)) (fun j hj => i2 j hj) ?_
          rw [hz]
          refine ⟨?_, fun j q1 q2 => ?_, fun j q1 q2 => ?_⟩
          · show s 2 11 = zjl (ztf (σ 17) (σ 20) (σ 2 10)) (zdx (σ 15) (σ 16) n) (zdn (σ 16) k) + (if (ztf (σ 17) (σ 20) (σ 2 10)) ((zdx (σ 15) (σ 16) n) (zdn (σ 16) k)) < 0 then 1 else 0)
            rw [hdx.1, etf, if_neg (by omega), i11]; omega
          · show (if j = v1 then s 21 v1 + 1 else s 21 j) = zji (ztf (σ 17) (σ 20) (σ 2 10)) (zdx (σ 15) (σ 16) n) j (zdn (σ 16) k) + (if (ztf (σ 17) (σ 20) (σ 2 10)) ((zdx (σ 15) (σ 16) n) (zdn (σ 16) k)) = j then 1 else 0)
            rw [hdx.1, etf]
            by_cases e : j = v1
            · rw [if_pos e, if_pos e.symm, ← e, i21 j q1 q2]
            · rw [if_neg e, if_neg (fun q => e q.symm), i21 j q1 q2]; omega
          · show (if j = v2 then s 19 v2 + 1 else s 19 j) = zjo (ztf (σ 17) (σ 20) (σ 2 10)) (znr (σ 17) (σ 20)) (zdx (σ 15) (σ 16) n) j (zdn (σ 16) k) + (if 0 ≤ (ztf (σ 17) (σ 20) (σ 2 10)) ((zdx (σ 15) (σ 16) n) (zdn (σ 16) k)) ∧ (znr (σ 17) (σ 20)) ((ztf (σ 17) (σ 20) (σ 2 10)) ((zdx (σ 15) (σ 16) n) (zdn (σ 16) k))) ((zdx (σ 15) (σ 16) n) (zdn (σ 16) k)) = j then 1 else 0)
            rw [hdx.1, etf, enr]
            by_cases e : j = v2
            · rw [if_pos e, if_pos ⟨by omega, e.symm⟩, ← e, i19 j q1 q2]
            · rw [if_neg e, if_neg (fun q => e q.2.symm), i19 j q1 q2]; omega
        · intro h6
          refine ⟨by (first | exact ⟨by omega, by omega⟩), ?_⟩
          refine ⟨by (first | exact ⟨by omega, by omega⟩), ?_⟩
          have hd : σ 16 (k : Int) = 12 := by assumption
          have hdx := zdx_at (wx := σ 15) hd n (by omega)
          have hz : zdn (σ 16) (k + 1) = zdn (σ 16) k + 1 := by simp only [zdn, if_pos hd]
          rw [← ec]
          refine ih (k + 1) _ (by omega) (hf.up (c := 2) (by decide)) (fun j hj => by
            show (if j = 11 then _ else s 2 j) = _
            rw [if_neg hj]; exact i2 j hj) ?_
          rw [hz]
          refine ⟨?_, fun j q1 q2 => ?_, fun j q1 q2 => ?_⟩
          · show s 2 11 + 1 = zjl (ztf (σ 17) (σ 20) (σ 2 10)) (zdx (σ 15) (σ 16) n) (zdn (σ 16) k) + (if (ztf (σ 17) (σ 20) (σ 2 10)) ((zdx (σ 15) (σ 16) n) (zdn (σ 16) k)) < 0 then 1 else 0)
            rw [hdx.1, etf, if_pos (by omega), i11]
          · show s 21 j = zji (ztf (σ 17) (σ 20) (σ 2 10)) (zdx (σ 15) (σ 16) n) j (zdn (σ 16) k) + (if (ztf (σ 17) (σ 20) (σ 2 10)) ((zdx (σ 15) (σ 16) n) (zdn (σ 16) k)) = j then 1 else 0)
            rw [hdx.1, etf, if_neg (by omega), i21 j q1 q2]; omega
          · show s 19 j = zjo (ztf (σ 17) (σ 20) (σ 2 10)) (znr (σ 17) (σ 20)) (zdx (σ 15) (σ 16) n) j (zdn (σ 16) k) + (if 0 ≤ (ztf (σ 17) (σ 20) (σ 2 10)) ((zdx (σ 15) (σ 16) n) (zdn (σ 16) k)) ∧ (znr (σ 17) (σ 20)) ((ztf (σ 17) (σ 20) (σ 2 10)) ((zdx (σ 15) (σ 16) n) (zdn (σ 16) k))) ((zdx (σ 15) (σ 16) n) (zdn (σ 16) k)) = j then 1 else 0)
            rw [hdx.1, etf, if_neg (by omega), i19 j q1 q2]; omega
set_option maxRecDepth 100000 in
set_option maxHeartbeats 4000000 in
theorem am_X2_joinDots {σ : zS} {n : Nat} (hL : zLF σ) (hn : σ 2 2 = (n : Int)) (hn40 : n ≤ 40) (hw : ∀ j : Int, 0 ≤ j → j < n → 0 ≤ σ 15 j ∧ σ 15 j ≤ 2000) (h21 : ∀ j : Int, 0 ≤ j → j < σ 2 10 → σ 21 j = 0) (h19 : ∀ j : Int, 0 ≤ j → j < σ 20 (σ 2 10) → σ 19 j = 0) : zAM 18 [.inr (.inr (2, 0))] σ (fun (v : Int) (u : zS) => zfr [2, 19, 21] σ u ∧ (∀ j : Int, ¬ j = 11 → u 2 j = σ 2 j) ∧ u 2 11 = zjl (ztf (σ 17) (σ 20) (σ 2 10)) (zdx (σ 15) (σ 16) n) (zdn (σ 16) n) ∧ (∀ j : Int, 0 ≤ j → j < σ 2 10 → u 21 j = zji (ztf (σ 17) (σ 20) (σ 2 10)) (zdx (σ 15) (σ 16) n) j (zdn (σ 16) n)) ∧ ∀ j : Int, 0 ≤ j → j < σ 20 (σ 2 10) → u 19 j = zjo (ztf (σ 17) (σ 20) (σ 2 10)) (znr (σ 17) (σ 20)) (zdx (σ 15) (σ 16) n) j (zdn (σ 16) n)) := by
  refine zam (by decide) (Nat.le_of_ble_eq_true rfl) ?_
  refine zwalk zmk_18 [(7, [true, true, false])] 2 ?_
  show zRuns 18 zX0 (fun (v : Int) (u : zS) => zfr [2, 19, 21] σ u ∧ (∀ j : Int, ¬ j = 11 → u 2 j = σ 2 j) ∧ u 2 11 = zjl (ztf (σ 17) (σ 20) (σ 2 10)) (zdx (σ 15) (σ 16) n) (zdn (σ 16) n) ∧ (∀ j : Int, 0 ≤ j → j < σ 2 10 → u 21 j = zji (ztf (σ 17) (σ 20) (σ 2 10)) (zdx (σ 15) (σ 16) n) j (zdn (σ 16) n)) ∧ ∀ j : Int, 0 ≤ j → j < σ 20 (σ 2 10) → u 19 j = zjo (ztf (σ 17) (σ 20) (σ 2 10)) (znr (σ 17) (σ 20)) (zdx (σ 15) (σ 16) n) j (zdn (σ 16) n)) 7 [some (.inr (.inr (2, 0))), some (.inl (0 : Int)), none] [] (zup σ 2 (11 : Int) (0 : Int))
  refine lp_join (σ := σ) hL hn hn40 hw n 0 _ (by omega) (zfr.rf.up (c := 2) (by decide)) ?_ ⟨rfl, h21, h19⟩
  intro j hj
  show (if j = 11 then _ else σ 2 j) = _
  rw [if_neg hj]
