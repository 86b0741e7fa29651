/-- the model's cells of THE LINE hold what follows -/
def zLM (wx ws : Int → Int) (g : Int) (n : Nat) (u : zS) : Prop := u 9 5 = zlN ws n ∧ u 9 9 = (zdn ws n : Int) ∧ u 9 13 = zlK wx ws g n ∧ u 9 11 = zlL wx ws g n ∧ (∀ j : Int, 0 ≤ j → j < zlN ws n → u 41 j = zlX wx ws n j ∧ u 42 j = zlX ws ws n j ∧ u 43 j = zlO wx ws g n j) ∧ (∀ d : Nat, d < zdn ws n → u 44 (d : Int) = zdx wx ws n d) ∧ (∀ j : Int, 0 ≤ j → j ≤ zlK wx ws g n → u 45 j = zlF wx ws g n j) ∧ ∀ j : Int, 0 ≤ j → j < zlK wx ws g n → u 46 j = zlI wx ws g n j
/-- what partLine says, in the words of the line -/
theorem zLM_of {σ u : zS} {wx ws : Int → Int} {g : Int} {n : Nat} (hx : ∀ j : Int, 0 ≤ j → j < zlN ws n → σ 41 j = zlX wx ws n j ∧ σ 42 j = zlX ws ws n j) (hd : ∀ d : Nat, d < zdn ws n → σ 44 (d : Int) = zdx wx ws n d) (h5 : σ 9 5 = zlN ws n) (h9 : σ 9 9 = (zdn ws n : Int)) (h : zfr [9, 43, 45, 46, 55] σ u ∧ (∀ j : Int, ¬ j = 11 → ¬ j = 13 → u 9 j = σ 9 j) ∧ (∀ j : Int, 0 ≤ j → j < 40 → u 55 j = 0) ∧ u 9 13 = zbk (σ 41) g (zlN ws n).toNat ∧ (∀ j : Int, 0 ≤ j → j ≤ zbk (σ 41) g (zlN ws n).toNat → u 45 j = zmF (σ 41) g (zlN ws n).toNat j) ∧ u 9 11 = zjl (ztf (σ 41) (zmF (σ 41) g (zlN ws n).toNat) (zbk (σ 41) g (zlN ws n).toNat)) (fun d : Nat => σ 44 (d : Int)) (zdn ws n) ∧ (∀ j : Int, 0 ≤ j → j < zbk (σ 41) g (zlN ws n).toNat → u 46 j = zji (ztf (σ 41) (zmF (σ 41) g (zlN ws n).toNat) (zbk (σ 41) g (zlN ws n).toNat)) (fun d : Nat => σ 44 (d : Int)) j (zdn ws n)) ∧ ∀ j : Int, 0 ≤ j → j < ((zlN ws n).toNat : Int) → u 43 j = zjo (ztf (σ 41) (zmF (σ 41) g (zlN ws n).toNat) (zbk (σ 41) g (zlN ws n).toNat)) (znr (σ 41) (zmF (σ 41) g (zlN ws n).toNat)) (fun d : Nat => σ 44 (d : Int)) j (zdn ws n)) : zLM wx ws g n u := by
  have hNl : 0 ≤ zlN ws n ∧ zlN ws n ≤ n := zpn_le ws n
  have hN9 : (((zlN ws n).toNat : Nat) : Int) = zlN ws n := Int.toNat_of_nonneg hNl.1
  obtain ⟨c1, c2, -, c4, c5, c6, c7, c8⟩ := h
  have hzz := zbk_congr (x := σ 41) (y := zlX wx ws n) (g := g) (n := (zlN ws n).toNat) (fun j p q => (hx j p (by rw [hN9] at q; exact q)).1)
  have hK : zbk (σ 41) g (zlN ws n).toNat = zlK wx ws g n := hzz.1
  have hF : zmF (σ 41) g (zlN ws n).toNat = zlF wx ws g n := by
    funext j
    unfold zmF zlF
    rw [hK, hN9, hzz.2]
  rw [hK] at c4 c5 c6 c7 c8
  rw [hF] at c5 c6 c7 c8
  rw [hN9] at c8
  have hbb := @zlF_b wx ws g n
  have htf : ∀ p, ztf (σ 41) (zlF wx ws g n) (zlK wx ws g n) p = zlT wx ws g n p := by
    intro p
    refine ztf_congr (N := zlN ws n) (fun j p q => (hx j p q).1) (fun _ _ _ => rfl) (fun i i0 i1 => ?_)
    have := hbb.2.2.1 i i0 i1
    omega
  have hdx9 : ∀ e, e < zdn ws n → ztf (σ 41) (zlF wx ws g n) (zlK wx ws g n) ((fun d : Nat => σ 44 (d : Int)) e) = zlT wx ws g n (zdx wx ws n e) := fun e he => by
    rw [htf]
    show zlT wx ws g n (σ 44 (e : Int)) = _
    rw [hd e he]
  obtain ⟨hj1, hj2⟩ := zjl_congr (zdn ws n) hdx9
  have hj3 := zjo_congr (nr := znr (σ 41) (zlF wx ws g n)) (nr' := zlR wx ws g n) (zdn ws n) (fun e he => ⟨hdx9 e he, fun q => by
    rw [hdx9 e he] at q ⊢
    have hr := ztf_r (x := zlX wx ws n) (f := zlF wx ws g n) (n := zlK wx ws g n) (p := zdx wx ws n e) hbb.1.1
    have q2 : 0 ≤ ztf (zlX wx ws n) (zlF wx ws g n) (zlK wx ws g n) (zdx wx ws n e) := q
    show znr (σ 41) (zlF wx ws g n) (zlT wx ws g n (zdx wx ws n e)) (σ 44 (e : Int)) = _
    rw [hd e he]
    refine znr_congr (N := zlN ws n) (n := zlK wx ws g n) (fun j p q => (hx j p q).1) (fun _ _ _ => rfl) (fun i i0 i1 => ?_) q (by show ztf _ _ _ _ < _; omega)
    have := hbb.2.2.1 i i0 i1
    omega⟩)
  refine ⟨by rw [c2 5 (by decide) (by decide)]; exact h5, by rw [c2 9 (by decide) (by decide)]; exact h9, c4, by rw [c6]; exact hj1, fun j j0 j1 => ?_, fun d hdd => ?_, c5, fun j j0 j1 => by rw [c7 j j0 j1]; exact hj2 j⟩
  · rw [c1 41 (by decide), c1 42 (by decide)]
    exact ⟨(hx j j0 j1).1, (hx j j0 j1).2, by rw [c8 j j0 j1]; exact hj3 j⟩
  · rw [c1 44 (by decide)]; exact hd d hdd
set_option maxRecDepth 100000 in
set_option maxHeartbeats 4000000 in
theorem am_X9_gap {σ : zS} {x : Int} {m : Nat} {wx : Int → Int} {ws : Int → Int} (hx : ∀ j : Int, 0 ≤ j → j < zlN ws m → σ 41 j = zlX wx ws m j ∧ σ 42 j = zlX ws ws m j) (hd : ∀ d : Nat, d < zdn ws m → σ 44 (d : Int) = zdx wx ws m d) (h5 : σ 9 5 = zlN ws m) (h9 : σ 9 9 = (zdn ws m : Int)) (hm40 : m ≤ 40) (hxr : ∀ j : Int, 0 ≤ j → j < zlN ws m → 0 ≤ σ 41 j ∧ σ 41 j ≤ 2000) (hdr : ∀ j : Int, 0 ≤ j → j < (zdn ws m : Int) → 0 ≤ σ 44 j ∧ σ 44 j ≤ 2000) : zAM 115 [.inr (.inr (9, 0)), .inl x] σ (fun (v : Int) (u : zS) => (¬ (1 ≤ x ∧ x ≤ 100) ∧ σ = u ∧ -1000001 = v) ∨ ((1 ≤ x ∧ x ≤ 100) ∧ σ 9 12 = v ∧ zfr [9, 43, 45, 46, 55] σ u ∧ (∀ j : Int, ¬ j = 11 → ¬ j = 12 → ¬ j = 13 → u 9 j = σ 9 j) ∧ u 9 12 = x ∧ (∀ j : Int, 0 ≤ j → j < 40 → u 55 j = 0) ∧ zLM wx ws x m u)) := by
  refine zam (by decide) (Nat.le_of_ble_eq_true rfl) ?_
  refine zwalk zmk_115 [] 3 ?_
  show (∃ Rc : Int → zS → Prop, zAM 103 [.inr (.inl x), .inr (.inl (1 : Int)), .inr (.inl (100 : Int))] σ Rc ∧ ∀ (v1 : Int) (u1 : zS), zI v1 → Rc v1 u1 → ((¬ v1 = 0 → (∃ Rc : Int → zS → Prop, zAM 112 [.inr (.inr (9, 0))] (zup u1 9 (12 : Int) x) Rc ∧ ∀ (u2 : zS), Rc 0 u2 → ((¬ (1 ≤ x ∧ x ≤ 100) ∧ σ = u2 ∧ -1000001 = (u1 9 (12 : Int))) ∨ ((1 ≤ x ∧ x ≤ 100) ∧ σ 9 12 = (u1 9 (12 : Int)) ∧ zfr [9, 43, 45, 46, 55] σ u2 ∧ (∀ j : Int, ¬ j = 11 → ¬ j = 12 → ¬ j = 13 → u2 9 j = σ 9 j) ∧ u2 9 12 = x ∧ (∀ j : Int, 0 ≤ j → j < 40 → u2 55 j = 0) ∧ zLM wx ws x m u2)))) ∧ (v1 = 0 → ((¬ (1 ≤ x ∧ x ≤ 100) ∧ σ = u1 ∧ -1000001 = (-1000001 : Int)) ∨ ((1 ≤ x ∧ x ≤ 100) ∧ σ 9 12 = (-1000001 : Int) ∧ zfr [9, 43, 45, 46, 55] σ u1 ∧ (∀ j : Int, ¬ j = 11 → ¬ j = 12 → ¬ j = 13 → u1 9 j = σ 9 j) ∧ u1 9 12 = x ∧ (∀ j : Int, 0 ≤ j → j < 40 → u1 55 j = 0) ∧ zLM wx ws x m u1)))))
  have hNl : 0 ≤ zlN ws m ∧ zlN ws m ≤ m := zpn_le ws m
  have hN9 : (((zlN ws m).toNat : Nat) : Int) = zlN ws m := Int.toNat_of_nonneg hNl.1
  have hdl := zdn_le ws m
  refine ⟨_, am_X9_in, ?_⟩
  intro v1 u1 hv1
  rintro ⟨rfl, (⟨rfl, cv1⟩ | ⟨rfl, cv1⟩)⟩
  · refine ⟨?_, ?_⟩
    · intro _
      refine ⟨_, am_X9_partLine (g := x) (n := (zlN ws m).toNat) (D := zdn ws m) (by rw [hN9]; exact h5) (by omega) (rfl) (by omega) (by rw [hN9]; exact hxr) (h9) (by omega) (hdr), ?_⟩
      intro u2
      intro kv2
      have hLM := zLM_of (σ := zup σ 9 12 x) (u := u2) (wx := wx) (ws := ws) (g := x) (n := m) hx hd h5 h9 kv2
      obtain ⟨f1, f2, f3, -⟩ := kv2
      first
        | exact Or.inl ⟨by omega, rfl, rfl⟩
        | exact Or.inr ⟨by omega, rfl, fun k hk => (by rw [f1 k hk, zup_ne (fun q => hk (by simp [q]))]), fun j j1 j2 j3 => (by rw [f2 j j1 j3, zup_at, if_neg j2]), (by rw [f2 12 (by decide) (by decide), zup_at]; exact if_pos rfl), f3, hLM⟩
    · exact fun h => absurd h (by decide)
  · refine ⟨?_, ?_⟩
    · exact fun h => absurd h (by decide)
    · intro _
      first
        | exact Or.inl ⟨by omega, rfl, rfl⟩
        | exact Or.inr ⟨by omega, rfl, fun k hk => (by rw [f1 k hk, zup_ne (fun q => hk (by simp [q]))]), fun j j1 j2 j3 => (by rw [f2 j j1 j3, zup_at, if_neg j2]), (by rw [f2 12 (by decide) (by decide), zup_at]; exact if_pos rfl), f3, hLM⟩
