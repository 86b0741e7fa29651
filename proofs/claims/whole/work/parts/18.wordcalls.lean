def zdg (w k : Int) : Int := w / 32 ^ (11 - k).toNat % 32
theorem zdg_lc {f : Nat → Int} {n : Nat} {k : Int} (h : zlet f n) (hn : n ≤ 12) (h0 : 0 ≤ k) (h1 : k < 12) : zdg (zlc f n) k = if k < (n : Int) then f k.toNat + 1 else 0 := by
  obtain ⟨j, rfl⟩ : ∃ j : Nat, k = (j : Int) := ⟨k.toNat, (Int.toNat_of_nonneg h0).symm⟩
  unfold zdg
  rw [show (11 - (j : Int)).toNat = 11 - j by omega, zlc_dig h hn (by omega), Int.toNat_natCast]
  by_cases e : j < n
  · rw [if_pos e, if_pos (by omega)]
  · rw [if_neg e, if_neg (by omega)]
theorem z2p {k : Int} (h0 : 0 ≤ k) (h1 : k < 12) : (2 : Int) ^ (5 * (11 - k)).toNat = 32 ^ (11 - k).toNat := by
  rw [show (5 * (11 - k)).toNat = 5 * (11 - k).toNat by omega, Int.pow_mul]; rfl
theorem zdg_r {w k : Int} : 0 ≤ zdg w k ∧ zdg w k < 32 := by unfold zdg; omega
set_option maxRecDepth 100000 in
set_option maxHeartbeats 4000000 in
theorem am_X8_wordShift {σ : zS} {k : Int} (h : 0 ≤ k ∧ k < 12) : zAM 86 [.inl k] σ (fun (v : Int) (u : zS) => σ = u ∧ (5 * (11 - k)) = v) := by
  refine zam (by decide) (Nat.le_of_ble_eq_true rfl) ?_
  refine zwalk zmk_86 [] 2 ?_
  show (zI ((11 : Int) - k) ∧ (zI ((5 : Int) * ((11 : Int) - k)) ∧ (σ = σ ∧ (5 * (11 - k)) = ((5 : Int) * ((11 : Int) - k)))))
  refine ⟨by (exact ⟨by omega, by omega⟩), ?_⟩
  refine ⟨by (exact ⟨by omega, by omega⟩), ?_⟩
  exact ⟨rfl, by omega⟩
set_option maxRecDepth 100000 in
set_option maxHeartbeats 4000000 in
theorem am_X8_letterAt {σ : zS} {w : Int} {k : Int} (hw : 0 ≤ w ∧ w < 1152921504606846976) (h : 0 ≤ k ∧ k < 12) : zAM 87 [.inr (.inl w), .inl k] σ (fun (v : Int) (u : zS) => σ = u ∧ zdg w k - 1 = v) := by
  refine zam (by decide) (Nat.le_of_ble_eq_true rfl) ?_
  refine zwalk zmk_87 [] 2 ?_
  show (∃ Rc : Int → zS → Prop, zAM 86 [.inl k] σ Rc ∧ ∀ (v1 : Int) (u1 : zS), zI v1 → Rc v1 u1 → (zI (Int64.ofInt ((Int64.ofInt w).toUInt64 >>> ((Int32.ofInt v1).toInt64.toUInt64 &&& Int64.toUInt64 63)).toInt64.toInt &&& Int64.ofInt (31 : Int)).toInt ∧ (zI ((Int64.ofInt ((Int64.ofInt w).toUInt64 >>> ((Int32.ofInt v1).toInt64.toUInt64 &&& Int64.toUInt64 63)).toInt64.toInt &&& Int64.ofInt (31 : Int)).toInt - (1 : Int)) ∧ (σ = u1 ∧ zdg w k - 1 = ((Int64.ofInt ((Int64.ofInt w).toUInt64 >>> ((Int32.ofInt v1).toInt64.toUInt64 &&& Int64.toUInt64 63)).toInt64.toInt &&& Int64.ofInt (31 : Int)).toInt - (1 : Int))))))
  have e1 : (Int64.ofInt ((Int64.ofInt w).toUInt64 >>> ((Int32.ofInt (5 * (11 - k))).toInt64.toUInt64 &&& Int64.toUInt64 63)).toInt64.toInt &&& Int64.ofInt (31 : Int)).toInt = zdg w k := by
    rw [zushr hw.1 (by omega) (by omega) (by omega), z2p h.1 h.2]
    have h7 : 0 ≤ w / 32 ^ (11 - k).toNat := Int.ediv_nonneg hw.1 (Int.le_of_lt (zp_pos _))
    have h8 : w / 32 ^ (11 - k).toNat ≤ w := Int.ediv_le_self _ hw.1
    exact zand31 h7 (by omega)
  have e2 := @zdg_r w k
  refine ⟨_, am_X8_wordShift (by omega), ?_⟩
  intro v1 u1 hv1
  rintro ⟨rfl, rfl⟩
  obtain ⟨hv1a, hv1b⟩ := hv1
  refine ⟨by (rw [e1]; exact ⟨by omega, by omega⟩), ?_⟩
  refine ⟨by (rw [e1]; exact ⟨by omega, by omega⟩), ?_⟩
  exact ⟨rfl, by rw [e1]⟩
set_option maxRecDepth 100000 in
set_option maxHeartbeats 4000000 in
theorem lp_lettersOf {f : Nat → Int} {m : Nat} {σ : zS} (hf : zlet f m) (hm : m ≤ 12) : ∀ (n : Nat) (k : Int), 12 - k < (n : Int) → (0 ≤ k ∧ k ≤ (m : Int)) → zRuns 88 zX0 (fun (v : Int) (u : zS) => σ = u ∧ (m : Int) = v) 2 [some (.inr (.inl (zlc f m))), none, some (.inl k)] [] σ := by
  intro n
  induction n with
  | zero =>
    intro k hn h0
    exfalso
    omega
  | succ n ih =>
    intro k hn h0
    refine zwalk zmk_88 [(2, [true, false, true])] 3 ?_
    show (((12 : Int) ≤ k → (σ = σ ∧ (m : Int) = k)) ∧ (k < (12 : Int) → (∃ Rc : Int → zS → Prop, zAM 87 [.inr (.inl (zlc f m)), .inl k] σ Rc ∧ ∀ (v1 : Int) (u1 : zS), zI v1 → Rc v1 u1 → ((v1 < 0 → (σ = u1 ∧ (m : Int) = k)) ∧ (0 ≤ v1 → (zI (k + (1 : Int)) ∧ zRuns 88 zX0 (fun (v : Int) (u : zS) => σ = u ∧ (m : Int) = v) 2 [some (.inr (.inl (zlc f m))), none, some (.inl (k + (1 : Int)))] [] u1))))))
    refine ⟨?_, ?_⟩
    · intro h1
      exact ⟨rfl, by omega⟩
    · intro h2
      refine ⟨_, am_X8_letterAt (zlc_lt hf hm) (by omega), ?_⟩
      intro v1 u1 hv1
      rintro ⟨rfl, rfl⟩
      obtain ⟨hv1a, hv1b⟩ := hv1
      refine ⟨?_, ?_⟩
      · intro h3
        have e := zdg_lc hf hm (show 0 ≤ k by omega) (show k < 12 by omega)
        refine ⟨rfl, ?_⟩
        by_cases q : k < (m : Int)
        · rw [if_pos q] at e
          have := hf k.toNat (by omega)
          omega
        · omega
      · intro h4
        refine ⟨by (exact ⟨by omega, by omega⟩), ?_⟩
        have e := zdg_lc hf hm (show 0 ≤ k by omega) (show k < 12 by omega)
        have e3 : k < (m : Int) := by
          by_cases q : k < (m : Int)
          · exact q
          · rw [if_neg q] at e; omega
        exact ih _ (by omega) (by omega)
set_option maxRecDepth 100000 in
set_option maxHeartbeats 4000000 in
theorem am_X8_lettersOf {σ : zS} {f : Nat → Int} {m : Nat} (hf : zlet f m) (hm : m ≤ 12) : zAM 88 [.inr (.inl (zlc f m))] σ (fun (v : Int) (u : zS) => σ = u ∧ (m : Int) = v) := by
  refine zam (by decide) (Nat.le_of_ble_eq_true rfl) ?_
  refine zwalk zmk_88 [(2, [true, false, true])] 2 ?_
  show zRuns 88 zX0 (fun (v : Int) (u : zS) => σ = u ∧ (m : Int) = v) 2 [some (.inr (.inl (zlc f m))), none, some (.inl (0 : Int))] [] σ
  exact lp_lettersOf hf hm 13 0 (by omega) (by omega)
theorem zp11 {k : Int} (h0 : 0 ≤ k) (h1 : k < 12) : (32 : Int) ^ (12 - k).toNat = 32 * 32 ^ (11 - k).toNat ∧ (32 : Int) ^ (11 - k).toNat ≤ 36028797018963968 ∧ 0 < (32 : Int) ^ (11 - k).toNat := by
  refine ⟨by rw [Int.mul_comm, ← Int.pow_succ]; congr 1; omega, ?_, zp_pos _⟩
  obtain ⟨j, rfl⟩ : ∃ j : Nat, k = (j : Int) := ⟨k.toNat, (Int.toNat_of_nonneg h0).symm⟩
  have h9 : ∀ j : Nat, j < 12 → (32 : Int) ^ (11 - (j : Int)).toNat ≤ 36028797018963968 := by decide
  exact h9 j (by omega)
set_option maxRecDepth 100000 in
set_option maxHeartbeats 4000000 in
theorem am_wordWith_hi {σ : zS} {w : Int} {k : Int} {l : Int} (hw : 0 ≤ w ∧ w < 1152921504606846976) (h : 0 ≤ k ∧ k < 12 ∧ 0 ≤ l ∧ l < 26) (hd : ∃ a : Int, 0 ≤ a ∧ w = a * 32 ^ (12 - k).toNat) : zAM 89 [.inr (.inl w), .inl k, .inl l] σ (fun (v : Int) (u : zS) => σ = u ∧ w + (l + 1) * 32 ^ (11 - k).toNat = v) := by
  refine zam (by decide) (Nat.le_of_ble_eq_true rfl) ?_
  refine zwalk zmk_89 [] 2 ?_
  show (zI (l + (1 : Int)) ∧ (∃ Rc : Int → zS → Prop, zAM 86 [.inl k] σ Rc ∧ ∀ (v1 : Int) (u1 : zS), zI v1 → Rc v1 u1 → (σ = u1 ∧ w + (l + 1) * 32 ^ (11 - k).toNat = (Int64.ofInt w ||| Int64.ofInt (Int64.ofInt (l + (1 : Int)) <<< ((Int32.ofInt v1).toInt64 &&& 63)).toInt).toInt)))
  have hp := zp11 h.1 h.2.1
  have e0 : (2 : Int) ^ (5 * (11 - k)).toNat = 32 ^ (11 - k).toNat := z2p h.1 h.2.1
  have e1 : (Int64.ofInt (l + (1 : Int)) <<< ((Int32.ofInt (5 * (11 - k))).toInt64 &&& 63)).toInt = (l + 1) * 32 ^ (11 - k).toNat := by
    rw [← e0]
    refine zshl (by omega) (by omega) (by omega) ?_
    rw [e0]
    have := Int.mul_le_mul_of_nonneg_right (show l + 1 ≤ 26 by omega) (Int.le_of_lt hp.2.2)
    omega
  
  refine ⟨by (exact ⟨by omega, by omega⟩), ?_⟩
  refine ⟨_, am_X8_wordShift (by omega), ?_⟩
  intro v1 u1 hv1
  rintro ⟨rfl, rfl⟩
  obtain ⟨hv1a, hv1b⟩ := hv1
  rw [e1]
  obtain ⟨a, ha, ea⟩ := hd
  have e5 : (2 : Int) ^ (5 * (12 - k).toNat) = 32 ^ (12 - k).toNat := by rw [Int.pow_mul]; rfl
  have h1 : 0 ≤ (l + 1) * 32 ^ (11 - k).toNat := Int.mul_nonneg (by omega) (Int.le_of_lt hp.2.2)
  have h2 : (l + 1) * 32 ^ (11 - k).toNat < 32 * 32 ^ (11 - k).toNat := Int.mul_lt_mul_of_pos_right (by omega) hp.2.2
  exact ⟨rfl, (zori (k := 5 * (12 - k).toNat) ha (by rw [e5]; exact ea) h1 (by rw [e5, hp.1]; exact h2) (by omega)).symm⟩
set_option maxRecDepth 100000 in
set_option maxHeartbeats 4000000 in
theorem am_wordWith_lo {σ : zS} {w : Int} {k : Int} {l : Int} (hw : 0 ≤ w ∧ w < 32 ^ (11 - k).toNat) (h : 0 ≤ k ∧ k < 12 ∧ 0 ≤ l ∧ l < 26) : zAM 89 [.inr (.inl w), .inl k, .inl l] σ (fun (v : Int) (u : zS) => σ = u ∧ w + (l + 1) * 32 ^ (11 - k).toNat = v) := by
  refine zam (by decide) (Nat.le_of_ble_eq_true rfl) ?_
  refine zwalk zmk_89 [] 2 ?_
  show (zI (l + (1 : Int)) ∧ (∃ Rc : Int → zS → Prop, zAM 86 [.inl k] σ Rc ∧ ∀ (v1 : Int) (u1 : zS), zI v1 → Rc v1 u1 → (σ = u1 ∧ w + (l + 1) * 32 ^ (11 - k).toNat = (Int64.ofInt w ||| Int64.ofInt (Int64.ofInt (l + (1 : Int)) <<< ((Int32.ofInt v1).toInt64 &&& 63)).toInt).toInt)))
  have hp := zp11 h.1 h.2.1
  have e0 : (2 : Int) ^ (5 * (11 - k)).toNat = 32 ^ (11 - k).toNat := z2p h.1 h.2.1
  have e1 : (Int64.ofInt (l + (1 : Int)) <<< ((Int32.ofInt (5 * (11 - k))).toInt64 &&& 63)).toInt = (l + 1) * 32 ^ (11 - k).toNat := by
    rw [← e0]
    refine zshl (by omega) (by omega) (by omega) ?_
    rw [e0]
    have := Int.mul_le_mul_of_nonneg_right (show l + 1 ≤ 26 by omega) (Int.le_of_lt hp.2.2)
    omega
  
  refine ⟨by (exact ⟨by omega, by omega⟩), ?_⟩
  refine ⟨_, am_X8_wordShift (by omega), ?_⟩
  intro v1 u1 hv1
  rintro ⟨rfl, rfl⟩
  obtain ⟨hv1a, hv1b⟩ := hv1
  rw [e1]
  have e5 : (2 : Int) ^ (5 * (11 - k).toNat) = 32 ^ (11 - k).toNat := by rw [Int.pow_mul]; rfl
  have h2 : (l + 1) * 32 ^ (11 - k).toNat ≤ 26 * 32 ^ (11 - k).toNat := Int.mul_le_mul_of_nonneg_right (by omega) (Int.le_of_lt hp.2.2)
  rw [Int.add_comm w]
  exact ⟨rfl, (zori' (k := 5 * (11 - k).toNat) (show 0 ≤ l + 1 by omega) (by rw [e5]) hw.1 (by rw [e5]; exact hw.2) (by omega)).symm⟩
set_option maxRecDepth 100000 in
set_option maxHeartbeats 4000000 in
theorem am_X7_append {σ : zS} {f : Nat → Int} {m : Nat} {l : Int} (hf : zlet f m) (hm : m < 12) (hl : 0 ≤ l ∧ l < 26) (h1 : σ 4 0 = zlc f m) (h2 : σ 4 1 = (m : Int)) : zAM 47 [.inr (.inr (4, 0)), .inl l] σ (fun (v : Int) (u : zS) => zup (zup σ 4 0 (zlc f m + (l + 1) * 32 ^ (11 - (m : Int)).toNat)) 4 1 ((m : Int) + 1) = u) := by
  refine zam (by decide) (Nat.le_of_ble_eq_true rfl) ?_
  refine zwalk zmk_47 [] 2 ?_
  show (∃ Rc : Int → zS → Prop, zAM 89 [.inr (.inl (σ 4 (0 : Int))), .inl (σ 4 (1 : Int)), .inl l] σ Rc ∧ ∀ (v1 : Int) (u1 : zS), zJ v1 → Rc v1 u1 → (zI ((u1 4 (1 : Int)) + (1 : Int)) ∧ (zup (zup σ 4 0 (zlc f m + (l + 1) * 32 ^ (11 - (m : Int)).toNat)) 4 1 ((m : Int) + 1) = (zup (zup u1 4 (0 : Int) v1) 4 (1 : Int) ((u1 4 (1 : Int)) + (1 : Int))))))
  rw [h1, h2]
  refine ⟨_, am_wordWith_hi (zlc_lt hf (by omega)) (by omega) (⟨zdw f m, (zdw_lt hf).1, by unfold zlc; congr 2; omega⟩), ?_⟩
  intro v1 u1 hv1
  rintro ⟨rfl, rfl⟩
  obtain ⟨hv1a, hv1b⟩ := hv1
  refine ⟨by (exact ⟨by omega, by omega⟩), ?_⟩
  rw [h2]
