/-! the two systems answer alike: small calls -/
noncomputable def zSim (n : Int) (σ : zS) (k8 k9 : Nat) (xs : List Int) : Prop := ∃ R8 : Int → zS → Prop, zAM k8 (.inr (.inr (0, 0)) :: xs.map .inl) σ R8 ∧ ∀ (v : Int) (u : zS), R8 v u → ∃ R9 : Int → zS → Prop, zAM k9 (.inr (.inr (9, 0)) :: xs.map .inl) u R9 ∧ ∀ (v' : Int) (u' : zS), R9 v' u' → v = v' ∧ zRel (n + 1) u'
theorem zfr.on {ks L : List Nat} {σ u : zS} (h : zfr ks σ u) (hd : ∀ c ∈ L, c ∉ ks) : ∀ c ∈ L, u c = σ c := fun c hc => h c (hd c hc)
theorem zrG_fr {σ u : zS} (e : ∀ c ∈ [2, 5, 18, 19, 20, 29, 30, 31, 32, 47, 42, 43, 45, 55, 56, 57, 58, 59], u c = σ c) (e4 : u 0 4 = σ 0 4 ∨ u 0 4 = -1) (e13 : u 9 13 = σ 9 13) (h : zrG σ) : zrG u := by
  have hd1 : ∀ q ∈ [2, 5, 18, 19, 20, 29, 30, 31, 32, 47], q ∈ [2, 5, 18, 19, 20, 29, 30, 31, 32, 47, 42, 43, 45, 55, 56, 57, 58, 59] := by decide
  have hd2 : ∀ q ∈ [42, 43, 45, 47, 55, 56, 57, 58, 59], q ∈ [2, 5, 18, 19, 20, 29, 30, 31, 32, 47, 42, 43, 45, 55, 56, 57, 58, 59] := by decide
  exact ⟨zIH_fr (fun q hq => e q (hd1 q hq)) e4 h.1, zRMI_fr (fun q hq => e q (hd2 q hq)) e13 h.2⟩
theorem zRel_up {n : Int} {σ : zS} (h : zRel n σ) : zRel (n + 1) σ := by
  obtain ⟨a, b, c, d, e, f, g, k, l⟩ := h
  exact ⟨a, b, c, d, e, f, g, k, zrN_up rfl rfl rfl rfl l⟩
/-- only sheets and the status change -/
theorem zRel_A {n : Int} {σ u : zS} (hf : zfr [0, 9, 11, 12, 13, 65, 37, 38, 39, 40] σ u) (e0 : ∀ j : Int, ¬ j = 11 → u 0 j = σ 0 j) (e9 : ∀ j : Int, ¬ j = 4 → u 9 j = σ 9 j) (hs : u 0 11 = u 9 4) (hA : zrA u) (h : zRel n σ) : zRel (n + 1) u := by
  obtain ⟨-, -, c, d, e, f, g, k, l⟩ := h
  exact ⟨hA, hs, zrB_fr (hf.on (by decide)) (e9 5 (by decide)) (e9 9 (by decide)) (e9 11 (by decide)) (e9 12 (by decide)) (e9 13 (by decide)) c,
    zrC_fr (hf.on (by decide)) (e9 17 (by decide)) (e9 20 (by decide)) d,
    zrD_fr (hf 53 (by decide)) (by rw [hf 4 (by decide)]) (by rw [hf 4 (by decide)]) (e9 25 (by decide)) e,
    zrE_fr (hf 28 (by decide)) (hf 51 (by decide)) (hf 52 (by decide)) (by rw [hf 4 (by decide)]) (e9 22 (by decide)) f,
    zrF_fr (hf 10 (by decide)) (hf 54 (by decide)) (e0 10 (by decide)) (e9 28 (by decide)) g,
    zrG_fr (hf.on (by decide)) (Or.inl (e0 4 (by decide))) (e9 13 (by decide)) k,
    zrN_up (by rw [hf 3 (by decide)]) (by rw [hf 3 (by decide)]) (e9 17 (by decide)) (e9 25 (by decide)) l⟩
theorem zRel_st {n x : Int} {σ : zS} (h : zRel n σ) : zRel (n + 1) (zup (zup σ 0 11 x) 9 4 x) := by
  refine zRel_A ((zfr.rf.up (by decide)).up (by decide)) (fun j j1 => ?_) (fun j j1 => ?_) rfl ?_ h
  · show (if j = 11 then x else σ 0 j) = _
    exact if_neg j1
  · show (if j = 4 then x else σ 9 j) = _
    exact if_neg j1
  · exact h.1
theorem sm_sheet {n : Int} {σ : zS} (h : zRel n σ) (s a c : Int) : zSim n σ 50 107 [s, a, c] := by
  refine ⟨_, am_X8_sheet, fun v u r => ⟨_, am_X9_sheet, fun v' u' r' => ?_⟩⟩
  rcases r with ⟨q, rfl, rfl⟩ | ⟨q, rfl, rfl⟩ | ⟨q, rfl, rfl⟩
  · rcases r' with ⟨q', rfl, rfl⟩ | ⟨q', rfl, rfl⟩ | ⟨q', rfl, rfl⟩
    · exact ⟨rfl, zRel_up h⟩
    · omega
    · omega
  · rcases r' with ⟨q', rfl, rfl⟩ | ⟨q', rfl, rfl⟩ | ⟨q', rfl, rfl⟩
    · omega
    · exact ⟨rfl, zRel_st h⟩
    · omega
  · rcases r' with ⟨q', rfl, rfl⟩ | ⟨q', rfl, rfl⟩ | ⟨q', rfl, rfl⟩
    · omega
    · omega
    · refine ⟨rfl, zRel_A (σ := σ) (fun k hk => ?_) (fun j j1 => ?_) (fun j j1 => ?_) rfl (fun t t0 t1 => ?_) h⟩
      · simp only [List.mem_cons, List.not_mem_nil, or_false, not_or] at hk
        funext x
        simp [zup, zfill, hk]
      · simp [zup, zfill, j1]
      · simp [zup, zfill, j1]
      · have q2 := h.1 t t0 t1
        by_cases e : t = s
        · subst e
          simp only [zup, zfill]
          simp
          refine ⟨by omega, by omega, fun i i0 i1 => ?_⟩
          rw [if_pos (by omega), if_pos (by omega)]
        · simp only [zup, zfill]
          simp [e]
          refine ⟨q2.1, q2.2.1, q2.2.2.1, q2.2.2.2.1, fun i i0 i1 => ?_⟩
          rw [if_neg (by omega), if_neg (by omega)]
          exact q2.2.2.2.2 i i0 i1
theorem zlane_m {a x : Int} (h : 0 ≤ a ∧ a ≤ 2) : zlanm (a + 1) x = zlane a x := by
  rcases (show a = 0 ∨ a = 1 ∨ a = 2 by omega) with rfl | rfl | rfl
  · rfl
  · rfl
  · rfl
theorem sm_set {n : Int} {σ : zS} (h : zRel n σ) (s i x : Int) : zSim n σ 51 108 [s, i, x] := by
  have hC := zrA_CS h.1
  refine ⟨_, am_X8_set hC.1, fun v u r => ⟨_, am_X9_set ?_, fun v' u' r' => ?_⟩⟩
  · rcases r with ⟨q, rfl, rfl⟩ | ⟨q, rfl, rfl⟩ | ⟨q, rfl, rfl⟩ | ⟨q, rfl, rfl⟩ <;> exact hC.2
  · have q2 : 0 ≤ s ∧ s < 8 → _ := fun z => h.1 s z.1 z.2
    rcases r with ⟨q, rfl, rfl⟩ | ⟨q, rfl, rfl⟩ | ⟨q, rfl, rfl⟩ | ⟨q, rfl, rfl⟩
    · rcases r' with ⟨q', rfl, rfl⟩ | ⟨q', rfl, rfl⟩ | ⟨q', rfl, rfl⟩ | ⟨q', rfl, rfl⟩
      · exact ⟨rfl, zRel_up h⟩
      · omega
      · omega
      · omega
    · have q3 := q2 ⟨q.1, q.2.1⟩
      rcases r' with ⟨q', rfl, rfl⟩ | ⟨q', rfl, rfl⟩ | ⟨q', rfl, rfl⟩ | ⟨q', rfl, rfl⟩
      · omega
      · exact ⟨rfl, zRel_st h⟩
      · have q4 : ¬ σ 37 s = 0 := q'.2.2.1
        omega
      · have q4 : ¬ σ 37 s = 0 := q'.2.2.1
        omega
    · have q3 := q2 ⟨q.1, q.2.1⟩
      rcases r' with ⟨q', rfl, rfl⟩ | ⟨q', rfl, rfl⟩ | ⟨q', rfl, rfl⟩ | ⟨q', rfl, rfl⟩
      · omega
      · have q4 : σ 37 s = 0 := q'.2.2
        omega
      · exact ⟨rfl, zRel_st h⟩
      · have q4 : 0 ≤ i ∧ i < σ 38 s := q'.2.2.2
        omega
    · have q3 := q2 ⟨q.1, q.2.1⟩
      rcases r' with ⟨q', rfl, rfl⟩ | ⟨q', rfl, rfl⟩ | ⟨q', rfl, rfl⟩ | ⟨q', rfl, rfl⟩
      · omega
      · have q4 : σ 37 s = 0 := q'.2.2
        omega
      · have q4 : ¬ (0 ≤ i ∧ i < σ 38 s) := q'.2.2.2
        omega
      · have e1 : zlanm (σ 37 s) x = zlane (σ 12 s) x := by
          rw [show σ 37 s = σ 12 s + 1 by omega, zlane_m q3.2.1]
        refine ⟨e1.symm, zRel_A (σ := σ) (fun k hk => ?_) (fun j j1 => ?_) (fun j j1 => ?_) rfl (fun t t0 t1 => ?_) h⟩
        · simp only [List.mem_cons, List.not_mem_nil, or_false, not_or] at hk
          funext y
          simp [zup, hk]
        · simp [zup, j1]
        · simp [zup, j1]
        · have q5 := h.1 t t0 t1
          refine ⟨q5.1, q5.2.1, q5.2.2.1, q5.2.2.2.1, fun k k0 k1 => ?_⟩
          show (if 80 * t + k = 80 * s + i then zlane (σ 12 s) x else σ 65 (80 * t + k)) = (if 80 * t + k = 80 * s + i then zlanm (σ 37 s) x else σ 39 (80 * t + k))
          rw [e1, q5.2.2.2.2 k k0 k1]
theorem sm_drop {n : Int} {σ : zS} (h : zRel n σ) (s : Int) : zSim n σ 53 110 [s] := by
  have hC := zrA_CS h.1
  refine ⟨_, am_X8_drop hC.1, fun v u r => ⟨_, am_X9_drop ?_, fun v' u' r' => ?_⟩⟩
  · rcases r with ⟨q, rfl, rfl⟩ | ⟨q, rfl, rfl⟩ | ⟨q, rfl, rfl⟩ <;> exact hC.2
  · have q2 : 0 ≤ s ∧ s < 8 → _ := fun z => h.1 s z.1 z.2
    rcases r with ⟨q, rfl, rfl⟩ | ⟨q, rfl, rfl⟩ | ⟨q, rfl, rfl⟩
    · rcases r' with ⟨q', rfl, rfl⟩ | ⟨q', rfl, rfl⟩ | ⟨q', rfl, rfl⟩
      · exact ⟨rfl, zRel_up h⟩
      · omega
      · omega
    · have q3 := q2 ⟨q.1, q.2.1⟩
      rcases r' with ⟨q', rfl, rfl⟩ | ⟨q', rfl, rfl⟩ | ⟨q', rfl, rfl⟩
      · omega
      · exact ⟨rfl, zRel_st h⟩
      · have q4 : ¬ σ 37 s = 0 := q'.2.2
        omega
    · have q3 := q2 ⟨q.1, q.2.1⟩
      rcases r' with ⟨q', rfl, rfl⟩ | ⟨q', rfl, rfl⟩ | ⟨q', rfl, rfl⟩
      · omega
      · have q4 : σ 37 s = 0 := q'.2.2
        omega
      · refine ⟨q3.2.2.2.1, zRel_A (σ := σ) (fun k hk => ?_) (fun j j1 => ?_) (fun j j1 => ?_) rfl (fun t t0 t1 => ?_) h⟩
        · simp only [List.mem_cons, List.not_mem_nil, or_false, not_or] at hk
          funext y
          simp [zup, hk]
        · simp [zup, j1]
        · simp [zup, j1]
        · have q5 := h.1 t t0 t1
          refine ⟨?_, q5.2⟩
          show ((if t = s then 0 else σ 11 t) = 0 ∧ (if t = s then 0 else σ 37 t) = 0) ∨ ((if t = s then 0 else σ 11 t) = 1 ∧ (if t = s then 0 else σ 37 t) = σ 12 t + 1)
          by_cases e : t = s
          · rw [if_pos e, if_pos e]
            exact Or.inl ⟨rfl, rfl⟩
          · rw [if_neg e, if_neg e]
            exact q5.1
theorem sm_copy {n : Int} {σ : zS} (h : zRel n σ) (a i b j m : Int) : zSim n σ 52 109 [a, i, b, j, m] := by
  have hC := zrA_CS h.1
  refine ⟨_, am_X8_copy hC.1, fun v u r => ⟨_, am_X9_copy ?_, fun v' u' r' => ?_⟩⟩
  · rcases r with ⟨q, rfl, rfl⟩ | ⟨q, rfl, rfl⟩ | ⟨q, rfl, rfl⟩ | ⟨q, rfl, rfl⟩ | ⟨q, rfl, rfl⟩ <;> exact hC.2
  · have q2 : (0 ≤ a ∧ a < 8) ∧ 0 ≤ b ∧ b < 8 → _ := fun z => And.intro (h.1 a z.1.1 z.1.2) (h.1 b z.2.1 z.2.2)
    have hr : _ := r
    have keep : u 37 = σ 37 ∧ u 38 = σ 38 ∧ u 39 = σ 39 := by
      rcases r with ⟨q, rfl, rfl⟩ | ⟨q, rfl, rfl⟩ | ⟨q, rfl, rfl⟩ | ⟨q, rfl, rfl⟩ | ⟨q, rfl, rfl⟩ <;> exact ⟨rfl, rfl, rfl⟩
    obtain ⟨k37, k38, k39⟩ := keep
    rw [k37, k38] at r'
    rcases hr with ⟨q, rfl, rfl⟩ | ⟨q, rfl, rfl⟩ | ⟨q, rfl, rfl⟩ | ⟨q, rfl, rfl⟩ | ⟨q, rfl, rfl⟩
    · rcases r' with ⟨q', rfl, rfl⟩ | ⟨q', q'', rfl, rfl⟩ | ⟨q', rfl, rfl⟩ | ⟨q', rfl, rfl⟩ | ⟨q', rfl, rfl⟩
      · exact ⟨rfl, zRel_up h⟩
      all_goals omega
    · have q3 := q2 ⟨q.1, q.2.1, q.2.2.1⟩
      rcases r' with ⟨q', rfl, rfl⟩ | ⟨q', q'', rfl, rfl⟩ | ⟨q', rfl, rfl⟩ | ⟨q', rfl, rfl⟩ | ⟨q', rfl, rfl⟩
      · omega
      · exact ⟨rfl, zRel_st h⟩
      all_goals omega
    · have q3 := q2 ⟨q.1, q.2.1, q.2.2.1⟩
      rcases r' with ⟨q', rfl, rfl⟩ | ⟨q', q'', rfl, rfl⟩ | ⟨q', rfl, rfl⟩ | ⟨q', rfl, rfl⟩ | ⟨q', rfl, rfl⟩
      · omega
      · omega
      · exact ⟨rfl, zRel_st h⟩
      all_goals omega
    · have q3 := q2 ⟨q.1, q.2.1, q.2.2.1⟩
      rcases r' with ⟨q', rfl, rfl⟩ | ⟨q', q'', rfl, rfl⟩ | ⟨q', rfl, rfl⟩ | ⟨q', rfl, rfl⟩ | ⟨q', rfl, rfl⟩
      · omega
      · omega
      · omega
      · exact ⟨rfl, zRel_st h⟩
      · omega
    · have q3 := q2 ⟨q.1, q.2.1, q.2.2.1⟩
      rcases r' with ⟨q', rfl, rfl⟩ | ⟨q', q'', rfl, rfl⟩ | ⟨q', rfl, rfl⟩ | ⟨q', rfl, rfl⟩ | ⟨q', rfl, rfl⟩
      · omega
      · omega
      · omega
      · omega
      · refine ⟨rfl, zRel_A (σ := σ) (fun k hk => ?_) (fun j j1 => ?_) (fun j j1 => ?_) rfl (fun t t0 t1 => ?_) h⟩
        · simp only [List.mem_cons, List.not_mem_nil, or_false, not_or] at hk
          funext y
          simp [zup, zcp, hk]
        · simp [zup, zcp, j1]
        · simp [zup, zcp, j1]
        · have q5 := h.1 t t0 t1
          refine ⟨q5.1, q5.2.1, q5.2.2.1, q5.2.2.2.1, fun k k0 k1 => ?_⟩
          have k2 : k < σ 13 t := k1
          have q6 := q5.2.2.2.2 k k0 k2
          simp only [zup, zcp]
          simp
          by_cases e : 80 * b + j ≤ 80 * t + k ∧ 80 * t + k < 80 * b + j + m
          · have et : t = b := by omega
            rw [if_pos e, if_pos e, if_pos (by omega)]
            have q7 := q3.1.2.2.2.2 (i + (80 * t + k - (80 * b + j))) (by omega) (by omega)
            rw [show 80 * a + i + (80 * t + k - (80 * b + j)) = 80 * a + (i + (80 * t + k - (80 * b + j))) by omega]
            exact q7
          · rw [if_neg e, if_neg e]
            exact q6
