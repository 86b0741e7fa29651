/-! the two systems answer alike: pair, unteach, count -/
theorem sm_pair {n : Int} {σ : zS} (h : zRel n σ) (hn : 0 ≤ n ∧ n ≤ 511) (a b o : Int) : zSim n σ 61 127 [a, b, o] := by
  obtain ⟨rA, rS, rB, ⟨⟨t1, t2, t3⟩, hA, hU⟩, rD, rE, rF, rG, n1, n2, n3⟩ := id h
  have h25 : 0 ≤ σ 9 25 := by obtain ⟨m9, m1, m2, m3, m4, m5⟩ := rD; omega
  have hU1 := hU.1
  have hU2 := hU.2.1
  refine ⟨_, am_X8_pair hA.2.2.2.1 hU2.1, fun v u r => ?_⟩
  have hk : zfr [0, 3, 22, 25, 26] σ u := by
    rcases r with ⟨q, rfl, rfl⟩ | ⟨q, rfl, rfl⟩
    · exact zfr.rf
    · by_cases z : 0 < σ 3 8 ∧ σ 3 6 < 1024
      · rw [if_pos z]
        exact ((((zfr.rf.up (by decide)).up (by decide)).up (by decide)).up (by decide)).up (by decide)
      · rw [if_neg z]
        exact (zfr.rf.up (by decide)).up (by decide)
  have k9 : u 9 = σ 9 := hk 9 (by decide)
  have k47 : u 47 = σ 47 := hk 47 (by decide)
  have k48 : u 48 = σ 48 := hk 48 (by decide)
  have k49 : u 49 = σ 49 := hk 49 (by decide)
  refine ⟨_, am_X9_pair (by rw [k47]; exact hA.2.2.2.2) (by rw [k9]; omega), fun v' u' r' => ?_⟩
  rw [k9, k47] at r'
  rcases r with ⟨q, rfl, rfl⟩ | ⟨q, hu, hv⟩
  · rcases r' with ⟨q', rfl, rfl⟩ | ⟨q', rfl, rfl⟩
    · exact ⟨rfl, zRel_up h⟩
    · omega
  · rcases r' with ⟨q', rfl, rfl⟩ | ⟨q', hu', hv'⟩
    · omega
    · have u22 : ∀ x : Int, u 22 x = if x = a * 26 + b then min 999 (σ 22 (a * 26 + b) + o) else σ 22 x := fun x => by
        rw [← hu]
        by_cases z : 0 < σ 3 8 ∧ σ 3 6 < 1024
        · rw [if_pos z]; rfl
        · rw [if_neg z]; rfl
      have u4 : u 0 4 = -1 := by
        rw [← hu]
        by_cases z : 0 < σ 3 8 ∧ σ 3 6 < 1024
        · rw [if_pos z]; rfl
        · rw [if_neg z]; rfl
      have u0 : ∀ j : Int, ¬ j = 4 → u 0 j = σ 0 j := fun j j1 => by
        rw [← hu]
        by_cases z : 0 < σ 3 8 ∧ σ 3 6 < 1024
        · rw [if_pos z]; exact if_neg j1
        · rw [if_neg z]; exact if_neg j1
      have u23 : u 3 3 = σ 3 3 ∧ u 3 8 = σ 3 8 := by
        rw [← hu]
        by_cases z : 0 < σ 3 8 ∧ σ 3 6 < 1024
        · rw [if_pos z]; exact ⟨rfl, rfl⟩
        · rw [if_neg z]; exact ⟨rfl, rfl⟩
      have ulog : (σ 3 8 = 0 ∧ u 25 = σ 25 ∧ u 3 6 = σ 3 6) ∨ (0 < σ 3 8 ∧ u 3 6 = σ 3 6 + 1 ∧ ∀ j : Int, u 25 j = (if j = σ 3 6 then a * 26 + b else σ 25 j) ∧ u 26 j = if j = σ 3 6 then σ 22 (a * 26 + b) else σ 26 j) := by
        rw [← hu]
        by_cases z : 0 < σ 3 8 ∧ σ 3 6 < 1024
        · rw [if_pos z]
          exact Or.inr ⟨by omega, rfl, fun j => ⟨rfl, rfl⟩⟩
        · rw [if_neg z]
          exact Or.inl ⟨by omega, rfl, rfl⟩
      have m47 : ∀ x : Int, u' 47 x = if x = 48984 + 26 * a + b then min 999 (σ 47 (48984 + 26 * a + b) + o) else σ 47 x := fun x => by
        rw [← hu', ← k47]
        by_cases z : 0 < σ 9 20
        · rw [if_pos z]; rfl
        · rw [if_neg z]; rfl
      have m55 : ∀ j : Int, 0 ≤ j → j < 40 → u' 55 j = 0 := fun j j0 j1 => by
        have e : zfill u 55 0 40 0 55 j = 0 := if_pos ⟨rfl, j0, by omega⟩
        rw [← hu']
        by_cases z : 0 < σ 9 20
        · rw [if_pos z]; exact e
        · rw [if_neg z]; exact e
      have m9 : ∀ j : Int, ¬ j = 17 → u' 9 j = σ 9 j := fun j j1 => by
        rw [← hu', ← k9]
        by_cases z : 0 < u 9 20
        · rw [if_pos z]; exact if_neg j1
        · rw [if_neg z]; rfl
      have mlog : (σ 9 20 = 0 ∧ u' 48 = σ 48 ∧ u' 9 17 = σ 9 17) ∨ (0 < σ 9 20 ∧ u' 9 17 = σ 9 17 + 1 ∧ ∀ j : Int, u' 48 j = (if j = σ 9 17 then 48984 + 26 * a + b else σ 48 j) ∧ u' 49 j = if j = σ 9 17 then σ 47 (48984 + 26 * a + b) else σ 49 j) := by
        rw [← hu']
        by_cases z : 0 < σ 9 20
        · rw [if_pos z]
          refine Or.inr ⟨z, rfl, fun j => ?_⟩
          rw [← k48, ← k49]
          exact ⟨rfl, rfl⟩
        · rw [if_neg z]
          refine Or.inl ⟨by omega, k48, ?_⟩
          rw [← k9]; rfl
      have mfr : zfr [55, 48, 49, 9, 47] u u' := by
        rw [← hu']
        have z0 : zfr [55, 48, 49, 9, 47] u (zfill u 55 0 40 0) := fun k hk => by
          simp only [List.mem_cons, List.not_mem_nil, or_false, not_or] at hk
          funext x
          exact if_neg (fun z => hk.1 z.1)
        by_cases z : 0 < σ 9 20
        · rw [if_pos z]
          exact (((z0.up (by decide)).up (by decide)).up (by decide)).up (by decide)
        · rw [if_neg z]
          exact z0.up (by decide)
      have hf : zfr [0, 3, 4, 5, 6, 9, 22, 23, 24, 25, 26, 27, 29, 30, 31, 32, 33, 34, 47, 48, 49, 50, 55, 60, 64] σ u' := fun c9 hc => by
        simp only [List.mem_cons, List.not_mem_nil, or_false, not_or] at hc
        rw [mfr c9 (by simp only [List.mem_cons, List.not_mem_nil, or_false, not_or]; omega), hk c9 (by simp only [List.mem_cons, List.not_mem_nil, or_false, not_or]; omega)]
      have j3 : u' 3 = u 3 := mfr 3 (by decide)
      have j23 : u' 23 = σ 23 := by rw [mfr 23 (by decide), hk 23 (by decide)]
      have j24 : u' 24 = σ 24 := by rw [mfr 24 (by decide), hk 24 (by decide)]
      have j22 : u' 22 = u 22 := mfr 22 (by decide)
      have hAf := zAGR_pair (f' := u' 22) (g' := u' 47) hA t1.1 (by omega : 0 ≤ o) q.1 q.2.1 (fun x => by rw [j22]; exact u22 x) m47
      have ev := hA.2.1 a b q.1.1 q.1.2 q.2.1.1 q.2.1.2
      refine ⟨by rw [← hv, ← hv', ev], zRel_C hf (fun j j1 => by rw [mfr 0 (by decide)]; exact u0 j j1) (by rw [mfr 0 (by decide)]; exact u4) (by rw [mfr 4 (by decide), hk 4 (by decide)]) (fun j j1 j2 j3 => m9 j j1) m55 ⟨⟨by rw [j3, u23.1]; exact t1, ?_, ?_⟩, ?_, ?_⟩ (zrD_fr (hf 53 (by decide)) (by rw [mfr 4 (by decide), hk 4 (by decide)]) (by rw [mfr 4 (by decide), hk 4 (by decide)]) (m9 25 (by decide)) rD) ⟨by rw [j3, u23.1]; omega, ?_, ?_⟩ h⟩
      · unfold zUQ
        rw [j3, j23, j24, u23.1]
        exact t2
      · rw [j3, j23, j24, u23.1]
        exact t3
      · rw [j3, j23, j24, u23.1]
        exact hAf
      · refine zrU_step (w := a * 26 + b) (p := 48984 + 26 * a + b) hU (by rw [j3, u23.2]) (m9 20 (by decide)) (by rw [mfr 27 (by decide), hk 27 (by decide)]) (by rw [mfr 50 (by decide), hk 50 (by decide)]) ⟨by omega, by omega⟩ ⟨by omega, by omega⟩ (fun f g z => by rw [j3, j23, j24, u23.1]; exact z) ?_ mlog (fun x x1 => by rw [j22, u22, if_neg x1]) (fun x x1 => by rw [m47, if_neg x1])
        rw [mfr 25 (by decide), mfr 26 (by decide), j3]
        exact ulog
      · rw [j3, m9 25 (by decide)]
        omega
      · rw [m9 25 (by decide)]
        omega
theorem sm_unteach {n : Int} {σ : zS} (h : zRel n σ) (hn : 0 ≤ n ∧ n ≤ 511) : zSim n σ 69 146 [] := by
  obtain ⟨rA, rS, rB, ⟨⟨t1, t2, t3⟩, hA, hU⟩, rD, rE, rF, rG, n1, n2, n3⟩ := id h
  have h25 : 0 ≤ σ 9 25 := by obtain ⟨m9, m1, m2, m3, m4, m5⟩ := rD; omega
  obtain ⟨a1, a2, a3, a4, a5, a6⟩ := id hU
  have hlo : ∃ lo lm : Int, (¬ σ 3 8 = 0 → σ 27 (σ 3 8 - 1) = lo ∧ σ 50 (σ 3 8 - 1) = lm) ∧ (0 ≤ lo ∧ lo ≤ σ 3 6) ∧ 0 ≤ lm ∧ lm ≤ σ 9 17 := by
    by_cases z : σ 3 8 = 0
    · exact ⟨σ 3 6, σ 9 17, fun y => absurd z y, ⟨a2.1, Int.le_refl _⟩, a2.2, Int.le_refl _⟩
    · have q := a6 (σ 3 8 - 1) (by omega) (by omega)
      exact ⟨_, _, fun _ => ⟨rfl, rfl⟩, q.1, q.2.1⟩
  obtain ⟨lo, lm, hl, hl1, hl2⟩ := hlo
  refine ⟨_, am_X8_unteach (lo := lo) (q9 := (σ 3 6 - lo).toNat) a1.2 (fun z => (hl z).1) hl1.1 (by omega) (by omega) (fun j j0 j1 => a3 j (by omega) j1), fun v u r => ?_⟩
  have hk : zfr [0, 3, 22] σ u := by
    rcases r with ⟨q, rfl, rfl⟩ | ⟨q, rfl, rfl⟩
    · exact zfr.rf
    · refine zfr.up (zfr.up (fun k hk => ?_) (by decide)) (by decide)
      simp only [List.mem_cons, List.not_mem_nil, or_false, not_or] at hk
      funext x
      show (if k = 22 then _ else (zup σ 3 8 (σ 3 8 - 1)) k) x = _
      rw [if_neg hk.2.2, zup_ne hk.2.1]
  have k9 : u 9 = σ 9 := hk 9 (by decide)
  have k47 : u 47 = σ 47 := hk 47 (by decide)
  have k48 : u 48 = σ 48 := hk 48 (by decide)
  have k49 : u 49 = σ 49 := hk 49 (by decide)
  have k50 : u 50 = σ 50 := hk 50 (by decide)
  refine ⟨_, am_X9_unteach (lo := lm) (m := (σ 9 17 - lm).toNat) (by rw [k9]; omega) (fun z => by rw [k9] at z ⊢; rw [k50, ← a1.1]; exact (hl (by omega)).2) hl2.1 (by rw [k9]; omega) (by rw [k9]; omega) (fun j j0 j1 => by rw [k9] at j1; rw [k48]; exact a4 j (by omega) j1), fun v' u' r' => ?_⟩
  rw [k9, k47, k48, k49] at r'
  rcases r with ⟨q, rfl, rfl⟩ | ⟨q, hu, hv⟩
  · rcases r' with ⟨q', rfl, rfl⟩ | ⟨q', rfl, rfl⟩
    · exact ⟨rfl, zRel_up h⟩
    · omega
  · rcases r' with ⟨q', rfl, rfl⟩ | ⟨q', hu', hv'⟩
    · omega
    · have qL := a6 (σ 3 8 - 1) (by omega) (by omega)
      rw [(hl q).1, (hl q).2] at qL
      have u22 : u 22 = zund (σ 25) (σ 26) lo (σ 3 6 - lo).toNat (σ 22) := by rw [← hu]; rfl
      have u36 : u 3 6 = lo := by rw [← hu]; rfl
      have u38 : u 3 8 = σ 3 8 - 1 := by rw [← hu]; rfl
      have u33 : u 3 3 = σ 3 3 := by rw [← hu]; rfl
      have u04 : u 0 4 = -1 := by rw [← hu]; rfl
      have u0 : ∀ j : Int, ¬ j = 4 → u 0 j = σ 0 j := fun j j1 => by rw [← hu]; exact if_neg j1
      have mfr : zfr [9, 47, 55] u u' := by
        rw [← hu']
        intro k hk
        simp only [List.mem_cons, List.not_mem_nil, or_false, not_or] at hk
        funext x
        simp only [zfill, zcell]
        rw [if_neg (fun z => hk.2.2 z.1), if_neg hk.2.1, zup_ne hk.1, zup_ne hk.1]
      have m47 : u' 47 = zund (σ 48) (σ 49) lm (σ 9 17 - lm).toNat (σ 47) := by rw [← hu']; rfl
      have m17 : u' 9 17 = lm := by rw [← hu']; rfl
      have m20 : u' 9 20 = σ 9 20 - 1 := by rw [← hu']; rfl
      have m9 : ∀ j : Int, ¬ j = 17 → ¬ j = 20 → u' 9 j = σ 9 j := fun j j1 j2 => by
        rw [← hu', ← k9]
        show (if j = 17 then lm else if j = 20 then _ else u 9 j) = _
        rw [if_neg j1, if_neg j2]
      have m55 : ∀ j : Int, 0 ≤ j → j < 40 → u' 55 j = 0 := fun j j0 j1 => by
        rw [← hu']
        exact if_pos ⟨rfl, j0, by omega⟩
      have hf : zfr [0, 3, 4, 5, 6, 9, 22, 23, 24, 25, 26, 27, 29, 30, 31, 32, 33, 34, 47, 48, 49, 50, 55, 60, 64] σ u' := fun c9 hc => by
        simp only [List.mem_cons, List.not_mem_nil, or_false, not_or] at hc
        rw [mfr c9 (by simp only [List.mem_cons, List.not_mem_nil, or_false, not_or]; omega), hk c9 (by simp only [List.mem_cons, List.not_mem_nil, or_false, not_or]; omega)]
      have j3 : u' 3 = u 3 := mfr 3 (by decide)
      have jj : ∀ c9 ∈ [23, 24, 25, 26, 27, 48, 49, 50], u' c9 = σ c9 := fun c9 hc => by
        simp only [List.mem_cons, List.not_mem_nil, or_false] at hc
        rw [mfr c9 (by simp only [List.mem_cons, List.not_mem_nil, or_false, not_or]; omega), hk c9 (by simp only [List.mem_cons, List.not_mem_nil, or_false, not_or]; omega)]
      refine ⟨by omega, zRel_C hf (fun j j1 => by rw [mfr 0 (by decide)]; exact u0 j j1) (by rw [mfr 0 (by decide)]; exact u04) (by rw [mfr 4 (by decide), hk 4 (by decide)]) (fun j j1 j2 j3 => m9 j j1 j2) m55 ⟨⟨by rw [j3, u33]; exact t1, ?_, ?_⟩, ?_, by rw [j3, u38, m20]; omega, by rw [j3, u36, m17]; omega, fun j j0 j1 => ?_, fun j j0 j1 => ?_, fun s t s0 s1 s2 => ?_, fun t t0 t1 => ?_⟩ (zrD_fr (hf 53 (by decide)) (by rw [mfr 4 (by decide), hk 4 (by decide)]) (by rw [mfr 4 (by decide), hk 4 (by decide)]) (m9 25 (by decide) (by decide)) rD) ⟨by rw [j3, u33]; omega, ?_, ?_⟩ h⟩
      · unfold zUQ
        rw [j3, jj 23 (by decide), jj 24 (by decide), u33]
        exact t2
      · rw [j3, jj 23 (by decide), jj 24 (by decide), u33]
        exact t3
      · rw [j3, jj 23 (by decide), jj 24 (by decide), u33, mfr 22 (by decide), u22, m47]
        exact qL.2.2
      · rw [j3, u36] at j1
        rw [jj 25 (by decide)]
        exact a3 j j0 (by omega)
      · rw [m17] at j1
        rw [jj 48 (by decide)]
        exact a4 j j0 (by omega)
      · rw [j3, u38] at s2
        rw [jj 27 (by decide), jj 50 (by decide)]
        exact a5 s t s0 s1 (by omega)
      · rw [j3, u38] at t1
        have b := a6 t t0 (by omega)
        have b2 := a5 t (σ 3 8 - 1) t0 (by omega) (by omega)
        rw [(hl q).1, (hl q).2] at b2
        have s1 := zund_split (sl := σ 25) (ol := σ 26) (lo := σ 27 t) (mid := lo) b2.1 (m := (σ 3 6 - lo).toNat) (g := σ 22)
        have s2 := zund_split (sl := σ 48) (ol := σ 49) (lo := σ 50 t) (mid := lm) b2.2 (m := (σ 9 17 - lm).toNat) (g := σ 47)
        rw [show lo + ((σ 3 6 - lo).toNat : Int) - σ 27 t = σ 3 6 - σ 27 t by omega] at s1
        rw [show lm + ((σ 9 17 - lm).toNat : Int) - σ 50 t = σ 9 17 - σ 50 t by omega] at s2
        rw [j3, jj 23 (by decide), jj 24 (by decide), jj 25 (by decide), jj 26 (by decide), jj 27 (by decide), jj 48 (by decide), jj 49 (by decide), jj 50 (by decide), u33, u36, m17, mfr 22 (by decide), u22, m47, ← s1, ← s2]
        exact ⟨by omega, by omega, b.2.2⟩
      · rw [j3, u36, m9 25 (by decide) (by decide)]
        omega
      · rw [m17, m9 25 (by decide) (by decide)]
        omega
theorem zps_congr {g g' : Int → Int} {a a' : Int} : ∀ {n : Nat}, (∀ k : Nat, k < n → (0 < g (a + k) ↔ 0 < g' (a' + k))) → zps g a n = zps g' a' n
  | 0, _ => rfl
  | n + 1, h => by
    have e := zps_congr (n := n) (fun k hk => h k (by omega))
    have q := h n (by omega)
    simp only [zps, e, q]
theorem zps_put {g : Int → Int} {p v : Int} : ∀ {n : Nat}, 0 ≤ p → g p ≤ 0 → zps (fun x => if x = p then v else g x) 0 n = zps g 0 n + (if p < n ∧ 0 < v then 1 else 0)
  | 0, h, _ => by simp only [zps]; rw [if_neg (by omega)]; omega
  | n + 1, h, hg => by
    have e := zps_put (v := v) (n := n) h hg
    show zps (fun x => if x = p then v else g x) 0 n + (if 0 < (if 0 + (n : Int) = p then v else g (0 + (n : Int))) then 1 else 0) = zps g 0 n + (if 0 < g (0 + (n : Int)) then 1 else 0) + _
    rw [e]
    by_cases z : (n : Int) = p
    · rw [if_pos (by omega : 0 + (n : Int) = p), if_neg (by omega : ¬ (p < (n : Int) ∧ 0 < v)), show 0 + (n : Int) = p by omega, if_neg (by omega : ¬ 0 < g p)]
      by_cases y : 0 < v
      · rw [if_pos y, if_pos (by omega)]
      · rw [if_neg y, if_neg (by omega)]
    · rw [if_neg (by omega : ¬ 0 + (n : Int) = p)]
      by_cases y : p < (n : Int) ∧ 0 < v
      · rw [if_pos y, if_pos (by omega : p < ((n + 1 : Nat) : Int) ∧ 0 < v)]
        omega
      · rw [if_neg y, if_neg (by omega : ¬ (p < ((n + 1 : Nat) : Int) ∧ 0 < v))]
        omega
/-- the table's counts, laid at their places -/
def zlay (pl f : Int → Int) : Nat → Int → Int
  | 0 => fun _ => 0
  | n + 1 => fun x => if x = pl n then f (676 + n) else zlay pl f n x
theorem zlay_no {pl f : Int → Int} {x : Int} : ∀ {n : Nat}, (∀ j : Nat, j < n → ¬ x = pl j) → zlay pl f n x = 0
  | 0, _ => rfl
  | n + 1, h => by
    show (if x = pl n then _ else _) = _
    rw [if_neg (h n (by omega))]
    exact zlay_no (fun j hj => h j (by omega))
theorem zlay_at {pl f : Int → Int} {j : Nat} : ∀ {n : Nat}, j < n → (∀ i : Nat, j < i → i < n → ¬ pl j = pl i) → zlay pl f n (pl j) = f (676 + j)
  | 0, h, _ => absurd h (by omega)
  | n + 1, h, hi => by
    show (if pl j = pl n then _ else _) = _
    by_cases e : j = n
    · rw [e, if_pos rfl]
    · rw [if_neg (hi n (by omega) (by omega))]
      exact zlay_at (by omega) (fun i i0 i1 => hi i i0 (by omega))
theorem zlay_ps {pl f : Int → Int} {B : Nat} : ∀ {n : Nat}, (∀ j : Nat, j < n → 0 ≤ pl j ∧ pl j < B) → (∀ i j : Nat, i < j → j < n → ¬ pl i = pl j) → zps (zlay pl f n) 0 B = zps f 676 n
  | 0, _, _ => by
    have : ∀ b : Nat, zps (zlay pl f 0) 0 b = 0 := fun b => by
      induction b with
      | zero => rfl
      | succ b ih =>
        show zps (zlay pl f 0) 0 b + (if 0 < (0 : Int) then 1 else 0) = 0
        rw [ih]
        rfl
    rw [this]
    rfl
  | n + 1, h, hi => by
    have e := zlay_ps (pl := pl) (f := f) (B := B) (n := n) (fun j hj => h j (by omega)) (fun i j i0 i1 => hi i j i0 (by omega))
    have q := h n (by omega)
    have e0 : zlay pl f n (pl n) = 0 := zlay_no (fun j hj z => hi j n hj (by omega) z.symm)
    show zps (fun x => if x = pl n then f (676 + n) else zlay pl f n x) 0 B = zps f 676 n + _
    rw [zps_put q.1 (by omega), e]
    by_cases y : 0 < f (676 + (n : Int))
    · rw [if_pos ⟨q.2, y⟩, if_pos y]
    · rw [if_neg (fun z => y z.2), if_neg y]
theorem zAGR_ps {σ : zS} {f g : Int → Int} (hT : zrT σ) (h : zAGR (σ 3 3) (σ 23) (σ 24) f g) : zps f 676 (σ 3 3).toNat = zps g 0 48984 := by
  obtain ⟨t1, t2, t3⟩ := hT
  have hpl : ∀ j : Int, 0 ≤ j → j < σ 3 3 → (0 ≤ σ 23 j ∧ σ 23 j < 26) ∧ (0 ≤ zRcd (σ 24 j) ∧ zRcd (σ 24 j) < 1884) ∧ σ 24 j = zdc (zRcd (σ 24 j)) := fun j j0 j1 => by
    obtain ⟨q1, x, q2, q3⟩ := t3 j j0 j1
    rw [q3, zRcd_dc q2]
    exact ⟨q1, q2, rfl⟩
  have hinj : ∀ i j : Nat, i < j → j < (σ 3 3).toNat → ¬ 1884 * σ 23 i + zRcd (σ 24 i) = 1884 * σ 23 j + zRcd (σ 24 j) := fun i j i0 i1 z => by
    have a := hpl i (by omega) (by omega)
    have b := hpl j (by omega) (by omega)
    refine t2 i j (by omega) (by omega) (by omega) ⟨by omega, ?_⟩
    rw [a.2.2, b.2.2, show zRcd (σ 24 i) = zRcd (σ 24 j) by omega]
  have e1 := zlay_ps (pl := fun j => 1884 * σ 23 j + zRcd (σ 24 j)) (f := f) (B := 48984) (n := (σ 3 3).toNat) (fun j hj => by
    have a := hpl j (by omega) (by omega)
    show 0 ≤ 1884 * σ 23 j + zRcd (σ 24 j) ∧ 1884 * σ 23 j + zRcd (σ 24 j) < _
    omega) hinj
  rw [← e1]
  refine zps_congr (fun k hk => ?_)
  have hk2 : (k : Int) < 48984 := by omega
  have e2 : zlay (fun j => 1884 * σ 23 j + zRcd (σ 24 j)) f (σ 3 3).toNat (0 + (k : Int)) = g (0 + (k : Int)) := by
    rw [Int.zero_add]
    have hq : (k : Int) = 1884 * ((k : Int) / 1884) + (k : Int) % 1884 := by omega
    rcases h.1 ((k : Int) / 1884) ((k : Int) % 1884) (by omega) (by omega) (by omega) (by omega) with ⟨j, j0, j1, j2, j3, j4⟩ | ⟨j0, j1⟩
    · rw [← hq] at j4
      have e3 := zlay_at (pl := fun j => 1884 * σ 23 j + zRcd (σ 24 j)) (f := f) (j := j.toNat) (n := (σ 3 3).toNat) (by omega) (fun i i0 i1 => hinj j.toNat i i0 i1)
      simp only [Int.toNat_of_nonneg j0] at e3
      rw [j2, j3, zRcd_dc ⟨by omega, by omega⟩, ← hq] at e3
      rw [e3, j4]
    · rw [← hq] at j1
      rw [j1]
      refine zlay_no (fun j hj z => ?_)
      have a := hpl j (by omega) (by omega)
      have z2 : (k : Int) = 1884 * σ 23 j + zRcd (σ 24 j) := z
      refine j0 j (by omega) (by omega) ⟨by omega, ?_⟩
      rw [a.2.2, show zRcd (σ 24 j) = (k : Int) % 1884 by omega]
  rw [e2]
theorem sm_count {n : Int} {σ : zS} (h : zRel n σ) (k : Int) : zSim n σ 74 156 [k] := by
  have hE := zrB_eq h.2.2.1
  obtain ⟨rA, rS, rB, ⟨⟨t1, t2, t3⟩, hA, hU⟩, rD, rE, rF, rG, rN⟩ := id h
  refine ⟨_, am_X8_count (fun j j0 j1 => by have := rA j j0 j1; omega) t1 ⟨by omega, by omega, by omega, by omega⟩, fun v u r => ⟨_, am_X9_count, fun v' u' r' => ?_⟩⟩
  obtain ⟨rfl, hv⟩ := r
  have hu : σ = u' := by rcases r' with ⟨q, q2, q3⟩ | ⟨q, q2, q3⟩ <;> exact q2
  subst hu
  refine ⟨?_, zRel_up h⟩
  rw [← hv]
  rcases r' with ⟨q, -, q3⟩ | ⟨q, -, q3⟩
  · rw [if_neg (by omega), if_neg (by omega), if_neg (by omega), if_neg (by omega), if_neg (by omega), if_neg (by omega), if_neg (by omega), if_neg (by omega)]
    exact q3
  · rw [← q3]
    rcases (show k = 0 ∨ k = 1 ∨ k = 2 ∨ k = 3 ∨ k = 4 ∨ k = 5 ∨ k = 6 ∨ k = 7 by omega) with rfl | rfl | rfl | rfl | rfl | rfl | rfl | rfl
    · simp only [Int.reduceEq, reduceIte]
      refine zps_congr (fun j hj => ?_)
      have := rA (0 + (j : Int)) (by omega) (by omega)
      omega
    · simp only [Int.reduceEq, reduceIte]
      omega
    · simp only [Int.reduceEq, reduceIte]
      omega
    · simp only [Int.reduceEq, reduceIte]
      exact zAGR_ps ⟨t1, t2, t3⟩ hA
    · simp only [Int.reduceEq, reduceIte]
      refine zps_congr (fun j hj => ?_)
      have q := hA.2.1 ((j : Int) / 26) ((j : Int) % 26) (by omega) (by omega) (by omega) (by omega)
      rw [show (j : Int) / 26 * 26 + (j : Int) % 26 = 0 + (j : Int) by omega, show 48984 + 26 * ((j : Int) / 26) + (j : Int) % 26 = 48984 + (j : Int) by omega] at q
      rw [q]
    · simp only [Int.reduceEq, reduceIte]
      exact rE.2.1.symm
    · simp only [Int.reduceEq, reduceIte]
      obtain ⟨m9, m1, m2, m3, m4, m5⟩ := rD
      omega
    · simp only [Int.reduceEq, reduceIte]
      exact hU.1.1
