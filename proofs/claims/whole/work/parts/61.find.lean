/-! the class's find, count -/
theorem zIH_TK {σ u : zS} {cnt : Int → Int → Int} {P : Int → Int → Int} {i : Int} (h : zTK zHK σ u cnt P i) : zIH u cnt P := by
  intro i' _ _ e
  have e1 : i' = i := by rw [← e]; exact h.2.2.1
  have e2 := zff_fr (cnt := cnt) (i := i) (h.1 18 (by decide)) (h.1 19 (by decide)) (h.1 20 (by decide))
  rw [e1, e2.1, e2.2]
  exact h.2.2.2
theorem zOK_TK {σ u : zS} {cnt : Int → Int → Int} {P : Int → Int → Int} (h : zfr zHK σ u) (hO : zOK σ cnt P) : zOK u cnt P :=
  hO.fr (h 2 (by decide)) (h 3 (by decide)) (h 18 (by decide)) (h 20 (by decide)) (h 22 (by decide)) (h 23 (by decide)) (h 24 (by decide))
/-- after some inks were taken in hand -/
def zTH2 (σ t : zS) (cnt : Int → Int → Int) (P : Int → Int → Int) : Prop := zfr zHK σ t ∧ (∀ j : Int, ¬ j = 4 → t 0 j = σ 0 j) ∧ zIH t cnt P
theorem zTH2.tk {σ t u : zS} {cnt : Int → Int → Int} {P : Int → Int → Int} {i : Int} (h : zTH2 σ t cnt P) (k : zTK zHK t u cnt P i) : zTH2 σ u cnt P :=
  ⟨fun q hq => by rw [k.1 q hq, h.1 q hq], fun j hj => by rw [k.2.1 j hj, h.2.1 j hj], zIH_TK k⟩
def zps (g : Int → Int) (a : Int) : Nat → Int
  | 0 => 0
  | n + 1 => zps g a n + (if 0 < g (a + n) then 1 else 0)
theorem zps_s {g : Int → Int} {a j : Int} (h : a ≤ j) : zps g a (j + 1 - a).toNat = zps g a (j - a).toNat + (if 0 < g j then 1 else 0) := by
  obtain ⟨n, e⟩ : ∃ n : Nat, j = a + n := ⟨(j - a).toNat, by omega⟩
  subst e
  rw [show (a + (n : Int) + 1 - a).toNat = n + 1 by omega, show (a + (n : Int) - a).toNat = n by omega]
  rfl
theorem zps_r {g : Int → Int} {a : Int} : ∀ {n : Nat}, 0 ≤ zps g a n ∧ zps g a n ≤ n
  | 0 => ⟨Int.le_refl _, Int.le_refl _⟩
  | n + 1 => by
    have ih := zps_r (g := g) (a := a) (n := n)
    simp only [zps]
    split <;> omega
set_option maxRecDepth 100000 in
set_option maxHeartbeats 4000000 in
theorem lp_find {k : Int} {cnt : Int → Int → Int} {P : Int → Int → Int} {σ : zS} (hC : zCQ σ cnt P) (h0 : ¬ σ 4 1 = 0) : ∀ (n : Nat) (i : Int) (t : zS), σ 2 10 + 1 - i < (n : Int) → (0 ≤ i ∧ i ≤ σ 2 10) → (zTH2 σ t cnt P) → (∀ j : Int, 0 ≤ j → j < i → (fun i => zTLD (zSD (zff σ cnt i) P (zqq σ i)) (σ 4 0)) j → ¬ zcT (fun i => zTLD (zSD (zff σ cnt i) P (zqq σ i)) (σ 4 0)) j.toNat = k) → zRuns 67 zX0 (fun (v : Int) (u : zS) => (σ 4 1 = 0 ∧ σ = u ∧ -1000002 = v) ∨ (¬ σ 4 1 = 0 ∧ zTH2 σ u cnt P ∧ zFN (fun i => zTLD (zSD (zff σ cnt i) P (zqq σ i)) (σ 4 0)) (σ 2 10) k v)) 17 [some (.inr (.inr (0, 0))), some (.inl k), some (.inl (zcT (fun i => zTLD (zSD (zff σ cnt i) P (zqq σ i)) (σ 4 0)) i.toNat)), some (.inl i)] [] t := by
  intro n
  induction n with
  | zero =>
    intro i t hn i0 hT hno
    exfalso
    omega
  | succ n ih =>
    intro i t hn i0 hT hno
    refine zwalk zmk_67 [(17, [true, true, true, true])] 3 ?_
    show (((t 2 (10 : Int)) ≤ i → ((σ 4 1 = 0 ∧ σ = t ∧ -1000002 = (-1000000 : Int)) ∨ (¬ σ 4 1 = 0 ∧ zTH2 σ t cnt P ∧ zFN (fun i => zTLD (zSD (zff σ cnt i) P (zqq σ i)) (σ 4 0)) (σ 2 10) k (-1000000 : Int)))) ∧ (i < (t 2 (10 : Int)) → (∃ Rc : Int → zS → Prop, zAM 90 [.inr (.inr (0, 0)), .inl i] t Rc ∧ ∀ (u1 : zS), Rc 0 u1 → (∃ Rc : Int → zS → Prop, zAM 38 [.inr (.inr (6, 0)), .inr (.inl (u1 4 (0 : Int)))] u1 Rc ∧ ∀ (v2 : Int) (u2 : zS), zI v2 → Rc v2 u2 → ((v2 = 0 → (zI (i + (1 : Int)) ∧ zRuns 67 zX0 (fun (v : Int) (u : zS) => (σ 4 1 = 0 ∧ σ = u ∧ -1000002 = v) ∨ (¬ σ 4 1 = 0 ∧ zTH2 σ u cnt P ∧ zFN (fun i => zTLD (zSD (zff σ cnt i) P (zqq σ i)) (σ 4 0)) (σ 2 10) k v)) 17 [some (.inr (.inr (0, 0))), some (.inl k), some (.inl (zcT (fun i => zTLD (zSD (zff σ cnt i) P (zqq σ i)) (σ 4 0)) i.toNat)), some (.inl (i + (1 : Int)))] [] u2)) ∧ (¬ v2 = 0 → ((¬ (zcT (fun i => zTLD (zSD (zff σ cnt i) P (zqq σ i)) (σ 4 0)) i.toNat) = k → (zI ((zcT (fun i => zTLD (zSD (zff σ cnt i) P (zqq σ i)) (σ 4 0)) i.toNat) + (1 : Int)) ∧ (zI (i + (1 : Int)) ∧ zRuns 67 zX0 (fun (v : Int) (u : zS) => (σ 4 1 = 0 ∧ σ = u ∧ -1000002 = v) ∨ (¬ σ 4 1 = 0 ∧ zTH2 σ u cnt P ∧ zFN (fun i => zTLD (zSD (zff σ cnt i) P (zqq σ i)) (σ 4 0)) (σ 2 10) k v)) 17 [some (.inr (.inr (0, 0))), some (.inl k), some (.inl ((zcT (fun i => zTLD (zSD (zff σ cnt i) P (zqq σ i)) (σ 4 0)) i.toNat) + (1 : Int))), some (.inl (i + (1 : Int)))] [] u2))) ∧ ((zcT (fun i => zTLD (zSD (zff σ cnt i) P (zqq σ i)) (σ 4 0)) i.toNat) = k → ((σ 4 1 = 0 ∧ σ = u2 ∧ -1000002 = i) ∨ (¬ σ 4 1 = 0 ∧ zTH2 σ u2 cnt P ∧ zFN (fun i => zTLD (zSD (zff σ cnt i) P (zqq σ i)) (σ 4 0)) (σ 2 10) k i))))))))))
    have hO1 := hC.1.1
    have e2 : t 2 = σ 2 := hT.1 2 (by decide)
    have e210 : t 2 10 = σ 2 10 := by rw [e2]
    have e4 : t 4 = σ 4 := hT.1 4 (by decide)
    have hfe := zff_fr (cnt := cnt) (i := i) (hT.1 18 (by decide)) (hT.1 19 (by decide)) (hT.1 20 (by decide))
    have hcr := zcT_r (T := (fun i => zTLD (zSD (zff σ cnt i) P (zqq σ i)) (σ 4 0))) (n := i.toNat)
    have hns : (i + 1).toNat = i.toNat + 1 := by omega
    have hii : ((i.toNat : Nat) : Int) = i := by omega
    refine ⟨?_, ?_⟩
    · intro h1
      exact Or.inr ⟨h0, hT, Or.inr ⟨fun j j0 j1 => hno j j0 (by omega), rfl⟩⟩
    · intro h2
      refine ⟨_, am_X8_takeInHand (cnt := cnt) (P := P) (zOK_TK hT.1 hC.1) (hT.2.2) (by rw [e2]; omega), ?_⟩
      intro u1
      intro kv1
      have hD := kv1.2.2.2
      have hTT := hD.2.2.2
      rw [hfe.1, hfe.2] at hTT
      have hti := zTLD_iff (x := σ 4 0) hTT
      have e40 : u1 4 0 = σ 4 0 := by rw [kv1.1 4 (by decide), e4]
      refine ⟨_, am_X4_tell (hTT.1), ?_⟩
      intro v2 u2 hv2
      rintro ⟨rfl, (⟨rfl, cv2⟩ | ⟨rfl, cv2⟩)⟩
      · refine ⟨?_, ?_⟩
        · exact fun h => absurd h (by decide)
        · intro _
          refine ⟨?_, ?_⟩
          · intro h4
            refine ⟨by (first | exact ⟨by omega, by omega⟩ | (exfalso; omega)), ?_⟩
            refine ⟨by (first | exact ⟨by omega, by omega⟩ | (exfalso; omega)), ?_⟩
            have hI := ih (i + 1) u1 (by omega) ⟨by omega, by omega⟩ (hT.tk kv1) (fun j j0 j1 => ?_)
            · rw [hns] at hI
              rw [e40] at cv2
              have ht : (fun i => zTLD (zSD (zff σ cnt i) P (zqq σ i)) (σ 4 0)) ((i.toNat : Nat) : Int) := by rw [hii]; exact hti.mpr cv2
              rw [zcT_yes ht] at hI
              exact hI
            · by_cases e : j = i
              · rw [e]
                intro hj
                rw [e40] at cv2
                assumption
              · exact hno j j0 (by omega)
          · intro h5
            refine Or.inr ⟨h0, hT.tk kv1, Or.inl ⟨i, i0.1, by omega, ?_, by assumption, rfl⟩⟩
            rw [e40] at cv2
            exact hti.mpr cv2
      · refine ⟨?_, ?_⟩
        · intro _
          refine ⟨by (first | exact ⟨by omega, by omega⟩ | (exfalso; omega)), ?_⟩
          have hI := ih (i + 1) u1 (by omega) ⟨by omega, by omega⟩ (hT.tk kv1) (fun j j0 j1 => ?_)
          · rw [hns] at hI
            rw [e40] at cv2
            have ht : ¬ (fun i => zTLD (zSD (zff σ cnt i) P (zqq σ i)) (σ 4 0)) ((i.toNat : Nat) : Int) := by rw [hii]; exact fun z => cv2 (hti.mp z)
            rw [zcT_no ht] at hI
            exact hI
          · by_cases e : j = i
            · rw [e]
              intro hj
              rw [e40] at cv2
              exact absurd (hti.mp hj) cv2
            · exact hno j j0 (by omega)
        · exact fun h => absurd h (by decide)
set_option maxRecDepth 100000 in
set_option maxHeartbeats 4000000 in
theorem am_X8_find {σ : zS} {k : Int} {cnt : Int → Int → Int} {P : Int → Int → Int} (hC : zCQ σ cnt P) : zAM 67 [.inr (.inr (0, 0)), .inl k] σ (fun (v : Int) (u : zS) => (σ 4 1 = 0 ∧ σ = u ∧ -1000002 = v) ∨ (¬ σ 4 1 = 0 ∧ zTH2 σ u cnt P ∧ zFN (fun i => zTLD (zSD (zff σ cnt i) P (zqq σ i)) (σ 4 0)) (σ 2 10) k v)) := by
  refine zam (by decide) (Nat.le_of_ble_eq_true rfl) ?_
  refine zwalk zmk_67 [(17, [true, true, true, true])] 3 ?_
  show ((¬ (σ 4 (1 : Int)) = 0 → zRuns 67 zX0 (fun (v : Int) (u : zS) => (σ 4 1 = 0 ∧ σ = u ∧ -1000002 = v) ∨ (¬ σ 4 1 = 0 ∧ zTH2 σ u cnt P ∧ zFN (fun i => zTLD (zSD (zff σ cnt i) P (zqq σ i)) (σ 4 0)) (σ 2 10) k v)) 17 [some (.inr (.inr (0, 0))), some (.inl k), some (.inl (0 : Int)), some (.inl (0 : Int))] [] σ) ∧ ((σ 4 (1 : Int)) = 0 → ((σ 4 1 = 0 ∧ σ = σ ∧ -1000002 = (-1000002 : Int)) ∨ (¬ σ 4 1 = 0 ∧ zTH2 σ σ cnt P ∧ zFN (fun i => zTLD (zSD (zff σ cnt i) P (zqq σ i)) (σ 4 0)) (σ 2 10) k (-1000002 : Int)))))
  refine ⟨?_, ?_⟩
  · intro h1
    have h9 := hC.1.1
    exact lp_find hC (by assumption) ((σ 2 10).toNat + 2) 0 σ (by omega) ⟨by omega, by omega⟩ ⟨zfr.rf, fun _ _ => rfl, hC.2.1⟩ (fun j j0 j1 => by omega)
  · intro h2
    exact Or.inl ⟨by omega, rfl, rfl⟩
set_option maxRecDepth 100000 in
set_option maxHeartbeats 4000000 in
theorem lp_seen {a : Int} {b : Int} {σ : zS} (hab : 0 ≤ a ∧ a ≤ b ∧ b ≤ 1188) : ∀ (n : Nat) (j : Int), b + 1 - j < (n : Int) → (a ≤ j ∧ j ≤ b) → zRuns 8 zX0 (fun (v : Int) (u : zS) => σ = u ∧ zps (σ 22) a (b - a).toNat = v) 5 [some (.inr (.inr (3, 0))), none, some (.inl b), some (.inl (zps (σ 22) a (j - a).toNat)), some (.inl j)] [] σ := by
  intro n
  induction n with
  | zero =>
    intro j hn j0
    exfalso
    omega
  | succ n ih =>
    intro j hn j0
    refine zwalk zmk_8 [(5, [true, false, true, true, true])] 3 ?_
    show ((b ≤ j → (σ = σ ∧ zps (σ 22) a (b - a).toNat = (zps (σ 22) a (j - a).toNat))) ∧ (j < b → ((0 ≤ j ∧ j < (1188 : Int)) ∧ (((σ 22 j) ≤ 0 → (zI ((zps (σ 22) a (j - a).toNat) + (0 : Int)) ∧ (zI (j + (1 : Int)) ∧ zRuns 8 zX0 (fun (v : Int) (u : zS) => σ = u ∧ zps (σ 22) a (b - a).toNat = v) 5 [some (.inr (.inr (3, 0))), none, some (.inl b), some (.inl ((zps (σ 22) a (j - a).toNat) + (0 : Int))), some (.inl (j + (1 : Int)))] [] σ))) ∧ (0 < (σ 22 j) → (zI ((zps (σ 22) a (j - a).toNat) + (1 : Int)) ∧ (zI (j + (1 : Int)) ∧ zRuns 8 zX0 (fun (v : Int) (u : zS) => σ = u ∧ zps (σ 22) a (b - a).toNat = v) 5 [some (.inr (.inr (3, 0))), none, some (.inl b), some (.inl ((zps (σ 22) a (j - a).toNat) + (1 : Int))), some (.inl (j + (1 : Int)))] [] σ)))))))
    have zs := zps_s (g := σ 22) j0.1
    have zr := zps_r (g := σ 22) (a := a) (n := (j - a).toNat)
    refine ⟨?_, ?_⟩
    · intro h1
      refine ⟨rfl, ?_⟩
      rw [show j = b by omega]
    · intro h2
      refine ⟨by (first | exact ⟨by omega, by omega⟩ | (exfalso; omega)), ?_⟩
      refine ⟨?_, ?_⟩
      · intro h3
        refine ⟨by (first | exact ⟨by omega, by omega⟩ | (exfalso; omega)), ?_⟩
        refine ⟨by (first | exact ⟨by omega, by omega⟩ | (exfalso; omega)), ?_⟩
        have hI := ih (j + 1) (by omega) ⟨by omega, by omega⟩
        rw [zs, if_neg (by omega)] at hI
        exact hI
      · intro h4
        refine ⟨by (first | exact ⟨by omega, by omega⟩ | (exfalso; omega)), ?_⟩
        refine ⟨by (first | exact ⟨by omega, by omega⟩ | (exfalso; omega)), ?_⟩
        have hI := ih (j + 1) (by omega) ⟨by omega, by omega⟩
        rw [zs, if_pos (by omega)] at hI
        exact hI
set_option maxRecDepth 100000 in
set_option maxHeartbeats 4000000 in
theorem am_X0_seenFrom {σ : zS} {a : Int} {b : Int} (hab : 0 ≤ a ∧ a ≤ b ∧ b ≤ 1188) : zAM 8 [.inr (.inr (3, 0)), .inl a, .inl b] σ (fun (v : Int) (u : zS) => σ = u ∧ zps (σ 22) a (b - a).toNat = v) := by
  refine zam (by decide) (Nat.le_of_ble_eq_true rfl) ?_
  refine zwalk zmk_8 [(5, [true, false, true, true, true])] 2 ?_
  show zRuns 8 zX0 (fun (v : Int) (u : zS) => σ = u ∧ zps (σ 22) a (b - a).toNat = v) 5 [some (.inr (.inr (3, 0))), none, some (.inl b), some (.inl (0 : Int)), some (.inl a)] [] σ
  have hI := lp_seen (σ := σ) hab ((b - a).toNat + 2) a (by omega) ⟨by omega, by omega⟩
  rw [show (a - a).toNat = 0 by omega] at hI
  exact hI
set_option maxRecDepth 100000 in
set_option maxHeartbeats 4000000 in
theorem am_X0_formsSeen {σ : zS} (hf : 0 ≤ σ 3 3 ∧ σ 3 3 ≤ 512) : zAM 6 [.inr (.inr (3, 0))] σ (fun (v : Int) (u : zS) => σ = u ∧ zps (σ 22) 676 (σ 3 3).toNat = v) := by
  refine zam (by decide) (Nat.le_of_ble_eq_true rfl) ?_
  refine zwalk zmk_6 [] 2 ?_
  show (zI ((676 : Int) + (σ 3 (3 : Int))) ∧ (∃ Rc : Int → zS → Prop, zAM 8 [.inr (.inr (3, 0)), .inl (676 : Int), .inl ((676 : Int) + (σ 3 (3 : Int)))] σ Rc ∧ ∀ (v1 : Int) (u1 : zS), zI v1 → Rc v1 u1 → (σ = u1 ∧ zps (σ 22) 676 (σ 3 3).toNat = v1)))
  refine ⟨by (first | exact ⟨by omega, by omega⟩ | (exfalso; omega)), ?_⟩
  refine ⟨_, am_X0_seenFrom (by omega), ?_⟩
  intro v1 u1 hv1
  rintro ⟨rfl, ev1⟩
  obtain ⟨hv1a, hv1b⟩ := hv1
  refine ⟨rfl, ?_⟩
  rw [← ev1, show 676 + σ 3 3 - 676 = σ 3 3 by omega]
set_option maxRecDepth 100000 in
set_option maxHeartbeats 4000000 in
theorem am_X0_pairsSeen {σ : zS} : zAM 7 [.inr (.inr (3, 0))] σ (fun (v : Int) (u : zS) => σ = u ∧ zps (σ 22) 0 676 = v) := by
  refine zam (by decide) (Nat.le_of_ble_eq_true rfl) ?_
  refine zwalk zmk_7 [] 2 ?_
  show (∃ Rc : Int → zS → Prop, zAM 8 [.inr (.inr (3, 0)), .inl (0 : Int), .inl (676 : Int)] σ Rc ∧ ∀ (v1 : Int) (u1 : zS), zI v1 → Rc v1 u1 → (σ = u1 ∧ zps (σ 22) 0 676 = v1))
  refine ⟨_, am_X0_seenFrom (by decide), ?_⟩
  intro v1 u1 hv1
  rintro ⟨rfl, ev1⟩
  obtain ⟨hv1a, hv1b⟩ := hv1
  exact ⟨rfl, ev1⟩
set_option maxRecDepth 100000 in
set_option maxHeartbeats 4000000 in
theorem lp_many {σ : zS} (hb : ∀ j : Int, 0 ≤ j → j < 8 → σ 11 j = 0 ∨ σ 11 j = 1) : ∀ (n : Nat) (j : Int), 9 - j < (n : Int) → (0 ≤ j ∧ j ≤ 8) → zRuns 43 zX0 (fun (v : Int) (u : zS) => σ = u ∧ zps (σ 11) 0 8 = v) 13 [none, some (.inl (zps (σ 11) 0 (j - 0).toNat)), some (.inr (.inr (11, 0))), some (.inl 8), some (.inl j), none] [] σ := by
  intro n
  induction n with
  | zero =>
    intro j hn j0
    exfalso
    omega
  | succ n ih =>
    intro j hn j0
    refine zwalk zmk_43 [(13, [false, true, true, true, true, false])] 3 ?_
    show ((8 ≤ j → (σ = σ ∧ zps (σ 11) 0 8 = (zps (σ 11) 0 (j - 0).toNat))) ∧ (j < 8 → ((0 ≤ j ∧ j < (8 : Int)) ∧ (((σ 11 j) = 0 → (zI ((zps (σ 11) 0 (j - 0).toNat) + (0 : Int)) ∧ (zI (j + (1 : Int)) ∧ zRuns 43 zX0 (fun (v : Int) (u : zS) => σ = u ∧ zps (σ 11) 0 8 = v) 13 [none, some (.inl ((zps (σ 11) 0 (j - 0).toNat) + (0 : Int))), some (.inr (.inr (11, 0))), some (.inl 8), some (.inl (j + (1 : Int))), none] [] σ))) ∧ (¬ (σ 11 j) = 0 → (zI ((zps (σ 11) 0 (j - 0).toNat) + (1 : Int)) ∧ (zI (j + (1 : Int)) ∧ zRuns 43 zX0 (fun (v : Int) (u : zS) => σ = u ∧ zps (σ 11) 0 8 = v) 13 [none, some (.inl ((zps (σ 11) 0 (j - 0).toNat) + (1 : Int))), some (.inr (.inr (11, 0))), some (.inl 8), some (.inl (j + (1 : Int))), none] [] σ)))))))
    have zs := zps_s (g := σ 11) j0.1
    have zr := zps_r (g := σ 11) (a := 0) (n := (j - 0).toNat)
    have hl := fun q => hb j j0.1 q
    refine ⟨?_, ?_⟩
    · intro h1
      refine ⟨rfl, ?_⟩
      rw [show j = 8 by omega]
      rfl
    · intro h2
      refine ⟨by (first | exact ⟨by omega, by omega⟩ | (exfalso; omega)), ?_⟩
      refine ⟨?_, ?_⟩
      · intro h3
        refine ⟨by (first | exact ⟨by omega, by omega⟩ | (exfalso; omega)), ?_⟩
        refine ⟨by (first | exact ⟨by omega, by omega⟩ | (exfalso; omega)), ?_⟩
        have hq := hl (by omega)
        have hI := ih (j + 1) (by omega) ⟨by omega, by omega⟩
        rw [zs, if_neg (by omega)] at hI
        exact hI
      · intro h4
        refine ⟨by (first | exact ⟨by omega, by omega⟩ | (exfalso; omega)), ?_⟩
        refine ⟨by (first | exact ⟨by omega, by omega⟩ | (exfalso; omega)), ?_⟩
        have hq := hl (by omega)
        have hI := ih (j + 1) (by omega) ⟨by omega, by omega⟩
        rw [zs, if_pos (by omega)] at hI
        exact hI
set_option maxRecDepth 100000 in
set_option maxHeartbeats 4000000 in
theorem am_X5_many {σ : zS} (hb : ∀ j : Int, 0 ≤ j → j < 8 → σ 11 j = 0 ∨ σ 11 j = 1) : zAM 43 [.inr (.inr (1, 0))] σ (fun (v : Int) (u : zS) => σ = u ∧ zps (σ 11) 0 8 = v) := by
  refine zam (by decide) (Nat.le_of_ble_eq_true rfl) ?_
  refine zwalk zmk_43 [(13, [false, true, true, true, true, false])] 2 ?_
  show zRuns 43 zX0 (fun (v : Int) (u : zS) => σ = u ∧ zps (σ 11) 0 8 = v) 13 [none, some (.inl (0 : Int)), some (.inr (.inr (11, 0))), some (.inl (8 : Int)), some (.inl (0 : Int)), none] [] σ
  exact lp_many hb 10 0 (by omega) ⟨by omega, by omega⟩
set_option maxRecDepth 100000 in
set_option maxHeartbeats 4000000 in
theorem am_X8_count {σ : zS} {k : Int} (hb : ∀ j : Int, 0 ≤ j → j < 8 → σ 11 j = 0 ∨ σ 11 j = 1) (hf : 0 ≤ σ 3 3 ∧ σ 3 3 ≤ 512) (hw : 0 ≤ σ 2 2 ∧ σ 2 2 ≤ 40 ∧ 0 ≤ σ 2 7 ∧ σ 2 7 ≤ 40) : zAM 74 [.inr (.inr (0, 0)), .inl k] σ (fun (v : Int) (u : zS) => σ = u ∧ (if k = 0 then zps (σ 11) 0 8 else if k = 1 then σ 2 10 else if k = 2 then σ 2 2 - σ 2 7 else if k = 3 then zps (σ 22) 676 (σ 3 3).toNat else if k = 4 then zps (σ 22) 0 676 else if k = 5 then σ 4 3 else if k = 6 then σ 4 1 else if k = 7 then σ 3 8 else -1000001) = v) := by
  refine zam (by decide) (Nat.le_of_ble_eq_true rfl) ?_
  refine zwalk zmk_74 [] 3 ?_
  show (((k = (0 : Int) → (∃ Rc : Int → zS → Prop, zAM 43 [.inr (.inr (1, 0))] σ Rc ∧ ∀ (v3 : Int) (u3 : zS), zI v3 → Rc v3 u3 → (σ = u3 ∧ (if k = 0 then zps (σ 11) 0 8 else if k = 1 then σ 2 10 else if k = 2 then σ 2 2 - σ 2 7 else if k = 3 then zps (σ 22) 676 (σ 3 3).toNat else if k = 4 then zps (σ 22) 0 676 else if k = 5 then σ 4 3 else if k = 6 then σ 4 1 else if k = 7 then σ 3 8 else -1000001) = v3))) ∧ ((k = (1 : Int) → (σ = σ ∧ (if k = 0 then zps (σ 11) 0 8 else if k = 1 then σ 2 10 else if k = 2 then σ 2 2 - σ 2 7 else if k = 3 then zps (σ 22) 676 (σ 3 3).toNat else if k = 4 then zps (σ 22) 0 676 else if k = 5 then σ 4 3 else if k = 6 then σ 4 1 else if k = 7 then σ 3 8 else -1000001) = (σ 2 (10 : Int)))) ∧ ((k = (2 : Int) → (zI ((σ 2 (2 : Int)) - (σ 2 (7 : Int))) ∧ (σ = σ ∧ (if k = 0 then zps (σ 11) 0 8 else if k = 1 then σ 2 10 else if k = 2 then σ 2 2 - σ 2 7 else if k = 3 then zps (σ 22) 676 (σ 3 3).toNat else if k = 4 then zps (σ 22) 0 676 else if k = 5 then σ 4 3 else if k = 6 then σ 4 1 else if k = 7 then σ 3 8 else -1000001) = ((σ 2 (2 : Int)) - (σ 2 (7 : Int)))))) ∧ ((k = (3 : Int) → (∃ Rc : Int → zS → Prop, zAM 6 [.inr (.inr (3, 0))] σ Rc ∧ ∀ (v2 : Int) (u2 : zS), zI v2 → Rc v2 u2 → (σ = u2 ∧ (if k = 0 then zps (σ 11) 0 8 else if k = 1 then σ 2 10 else if k = 2 then σ 2 2 - σ 2 7 else if k = 3 then zps (σ 22) 676 (σ 3 3).toNat else if k = 4 then zps (σ 22) 0 676 else if k = 5 then σ 4 3 else if k = 6 then σ 4 1 else if k = 7 then σ 3 8 else -1000001) = v2))) ∧ ((k = (4 : Int) → (∃ Rc : Int → zS → Prop, zAM 7 [.inr (.inr (3, 0))] σ Rc ∧ ∀ (v1 : Int) (u1 : zS), zI v1 → Rc v1 u1 → (σ = u1 ∧ (if k = 0 then zps (σ 11) 0 8 else if k = 1 then σ 2 10 else if k = 2 then σ 2 2 - σ 2 7 else if k = 3 then zps (σ 22) 676 (σ 3 3).toNat else if k = 4 then zps (σ 22) 0 676 else if k = 5 then σ 4 3 else if k = 6 then σ 4 1 else if k = 7 then σ 3 8 else -1000001) = v1))) ∧ ((k = (5 : Int) → (σ = σ ∧ (if k = 0 then zps (σ 11) 0 8 else if k = 1 then σ 2 10 else if k = 2 then σ 2 2 - σ 2 7 else if k = 3 then zps (σ 22) 676 (σ 3 3).toNat else if k = 4 then zps (σ 22) 0 676 else if k = 5 then σ 4 3 else if k = 6 then σ 4 1 else if k = 7 then σ 3 8 else -1000001) = (σ 4 (3 : Int)))) ∧ ((k = (6 : Int) → (σ = σ ∧ (if k = 0 then zps (σ 11) 0 8 else if k = 1 then σ 2 10 else if k = 2 then σ 2 2 - σ 2 7 else if k = 3 then zps (σ 22) 676 (σ 3 3).toNat else if k = 4 then zps (σ 22) 0 676 else if k = 5 then σ 4 3 else if k = 6 then σ 4 1 else if k = 7 then σ 3 8 else -1000001) = (σ 4 (1 : Int)))) ∧ ((k = (7 : Int) → (σ = σ ∧ (if k = 0 then zps (σ 11) 0 8 else if k = 1 then σ 2 10 else if k = 2 then σ 2 2 - σ 2 7 else if k = 3 then zps (σ 22) 676 (σ 3 3).toNat else if k = 4 then zps (σ 22) 0 676 else if k = 5 then σ 4 3 else if k = 6 then σ 4 1 else if k = 7 then σ 3 8 else -1000001) = (σ 3 (8 : Int)))) ∧ True)))))))) ∧ ((k < (0 : Int) ∨ (7 : Int) < k) → (σ = σ ∧ (if k = 0 then zps (σ 11) 0 8 else if k = 1 then σ 2 10 else if k = 2 then σ 2 2 - σ 2 7 else if k = 3 then zps (σ 22) 676 (σ 3 3).toNat else if k = 4 then zps (σ 22) 0 676 else if k = 5 then σ 4 3 else if k = 6 then σ 4 1 else if k = 7 then σ 3 8 else -1000001) = (-1000001 : Int))))
  refine ⟨?_, ?_⟩
  · refine ⟨?_, ?_⟩
    · intro h1
      refine ⟨_, am_X5_many (hb), ?_⟩
      intro v3 u3 hv3
      rintro ⟨rfl, ev3⟩
      obtain ⟨hv3a, hv3b⟩ := hv3
      refine ⟨rfl, ?_⟩
      first | (rw [if_pos (by omega)]; assumption) | (rw [if_neg (by omega), if_pos (by omega)]) | (rw [if_neg (by omega), if_neg (by omega), if_pos (by omega)]) | (rw [if_neg (by omega), if_neg (by omega), if_neg (by omega), if_pos (by omega)]; assumption) | (rw [if_neg (by omega), if_neg (by omega), if_neg (by omega), if_neg (by omega), if_pos (by omega)]; assumption) | (rw [if_neg (by omega), if_neg (by omega), if_neg (by omega), if_neg (by omega), if_neg (by omega), if_pos (by omega)]) | (rw [if_neg (by omega), if_neg (by omega), if_neg (by omega), if_neg (by omega), if_neg (by omega), if_neg (by omega), if_pos (by omega)]) | (rw [if_neg (by omega), if_neg (by omega), if_neg (by omega), if_neg (by omega), if_neg (by omega), if_neg (by omega), if_neg (by omega), if_pos (by omega)]) | (rw [if_neg (by omega), if_neg (by omega), if_neg (by omega), if_neg (by omega), if_neg (by omega), if_neg (by omega), if_neg (by omega), if_neg (by omega)])
    · refine ⟨?_, ?_⟩
      · intro h2
        refine ⟨rfl, ?_⟩
        first | (rw [if_pos (by omega)]; assumption) | (rw [if_neg (by omega), if_pos (by omega)]) | (rw [if_neg (by omega), if_neg (by omega), if_pos (by omega)]) | (rw [if_neg (by omega), if_neg (by omega), if_neg (by omega), if_pos (by omega)]; assumption) | (rw [if_neg (by omega), if_neg (by omega), if_neg (by omega), if_neg (by omega), if_pos (by omega)]; assumption) | (rw [if_neg (by omega), if_neg (by omega), if_neg (by omega), if_neg (by omega), if_neg (by omega), if_pos (by omega)]) | (rw [if_neg (by omega), if_neg (by omega), if_neg (by omega), if_neg (by omega), if_neg (by omega), if_neg (by omega), if_pos (by omega)]) | (rw [if_neg (by omega), if_neg (by omega), if_neg (by omega), if_neg (by omega), if_neg (by omega), if_neg (by omega), if_neg (by omega), if_pos (by omega)]) | (rw [if_neg (by omega), if_neg (by omega), if_neg (by omega), if_neg (by omega), if_neg (by omega), if_neg (by omega), if_neg (by omega), if_neg (by omega)])
      · refine ⟨?_, ?_⟩
        · intro h3
          refine ⟨by (first | exact ⟨by omega, by omega⟩ | (exfalso; omega)), ?_⟩
          refine ⟨rfl, ?_⟩
          first | (rw [if_pos (by omega)]; assumption) | (rw [if_neg (by omega), if_pos (by omega)]) | (rw [if_neg (by omega), if_neg (by omega), if_pos (by omega)]) | (rw [if_neg (by omega), if_neg (by omega), if_neg (by omega), if_pos (by omega)]; assumption) | (rw [if_neg (by omega), if_neg (by omega), if_neg (by omega), if_neg (by omega), if_pos (by omega)]; assumption) | (rw [if_neg (by omega), if_neg (by omega), if_neg (by omega), if_neg (by omega), if_neg (by omega), if_pos (by omega)]) | (rw [if_neg (by omega), if_neg (by omega), if_neg (by omega), if_neg (by omega), if_neg (by omega), if_neg (by omega), if_pos (by omega)]) | (rw [if_neg (by omega), if_neg (by omega), if_neg (by omega), if_neg (by omega), if_neg (by omega), if_neg (by omega), if_neg (by omega), if_pos (by omega)]) | (rw [if_neg (by omega), if_neg (by omega), if_neg (by omega), if_neg (by omega), if_neg (by omega), if_neg (by omega), if_neg (by omega), if_neg (by omega)])
        · refine ⟨?_, ?_⟩
          · intro h4
            refine ⟨_, am_X0_formsSeen (hf), ?_⟩
            intro v2 u2 hv2
            rintro ⟨rfl, ev2⟩
            obtain ⟨hv2a, hv2b⟩ := hv2
            refine ⟨rfl, ?_⟩
            first | (rw [if_pos (by omega)]; assumption) | (rw [if_neg (by omega), if_pos (by omega)]) | (rw [if_neg (by omega), if_neg (by omega), if_pos (by omega)]) | (rw [if_neg (by omega), if_neg (by omega), if_neg (by omega), if_pos (by omega)]; assumption) | (rw [if_neg (by omega), if_neg (by omega), if_neg (by omega), if_neg (by omega), if_pos (by omega)]; assumption) | (rw [if_neg (by omega), if_neg (by omega), if_neg (by omega), if_neg (by omega), if_neg (by omega), if_pos (by omega)]) | (rw [if_neg (by omega), if_neg (by omega), if_neg (by omega), if_neg (by omega), if_neg (by omega), if_neg (by omega), if_pos (by omega)]) | (rw [if_neg (by omega), if_neg (by omega), if_neg (by omega), if_neg (by omega), if_neg (by omega), if_neg (by omega), if_neg (by omega), if_pos (by omega)]) | (rw [if_neg (by omega), if_neg (by omega), if_neg (by omega), if_neg (by omega), if_neg (by omega), if_neg (by omega), if_neg (by omega), if_neg (by omega)])
          · refine ⟨?_, ?_⟩
            · intro h5
              refine ⟨_, am_X0_pairsSeen, ?_⟩
              intro v1 u1 hv1
              rintro ⟨rfl, ev1⟩
              obtain ⟨hv1a, hv1b⟩ := hv1
              refine ⟨rfl, ?_⟩
              first | (rw [if_pos (by omega)]; assumption) | (rw [if_neg (by omega), if_pos (by omega)]) | (rw [if_neg (by omega), if_neg (by omega), if_pos (by omega)]) | (rw [if_neg (by omega), if_neg (by omega), if_neg (by omega), if_pos (by omega)]; assumption) | (rw [if_neg (by omega), if_neg (by omega), if_neg (by omega), if_neg (by omega), if_pos (by omega)]; assumption) | (rw [if_neg (by omega), if_neg (by omega), if_neg (by omega), if_neg (by omega), if_neg (by omega), if_pos (by omega)]) | (rw [if_neg (by omega), if_neg (by omega), if_neg (by omega), if_neg (by omega), if_neg (by omega), if_neg (by omega), if_pos (by omega)]) | (rw [if_neg (by omega), if_neg (by omega), if_neg (by omega), if_neg (by omega), if_neg (by omega), if_neg (by omega), if_neg (by omega), if_pos (by omega)]) | (rw [if_neg (by omega), if_neg (by omega), if_neg (by omega), if_neg (by omega), if_neg (by omega), if_neg (by omega), if_neg (by omega), if_neg (by omega)])
            · refine ⟨?_, ?_⟩
              · intro h6
                refine ⟨rfl, ?_⟩
                first | (rw [if_pos (by omega)]; assumption) | (rw [if_neg (by omega), if_pos (by omega)]) | (rw [if_neg (by omega), if_neg (by omega), if_pos (by omega)]) | (rw [if_neg (by omega), if_neg (by omega), if_neg (by omega), if_pos (by omega)]; assumption) | (rw [if_neg (by omega), if_neg (by omega), if_neg (by omega), if_neg (by omega), if_pos (by omega)]; assumption) | (rw [if_neg (by omega), if_neg (by omega), if_neg (by omega), if_neg (by omega), if_neg (by omega), if_pos (by omega)]) | (rw [if_neg (by omega), if_neg (by omega), if_neg (by omega), if_neg (by omega), if_neg (by omega), if_neg (by omega), if_pos (by omega)]) | (rw [if_neg (by omega), if_neg (by omega), if_neg (by omega), if_neg (by omega), if_neg (by omega), if_neg (by omega), if_neg (by omega), if_pos (by omega)]) | (rw [if_neg (by omega), if_neg (by omega), if_neg (by omega), if_neg (by omega), if_neg (by omega), if_neg (by omega), if_neg (by omega), if_neg (by omega)])
              · refine ⟨?_, ?_⟩
                · intro h7
                  refine ⟨rfl, ?_⟩
                  first | (rw [if_pos (by omega)]; assumption) | (rw [if_neg (by omega), if_pos (by omega)]) | (rw [if_neg (by omega), if_neg (by omega), if_pos (by omega)]) | (rw [if_neg (by omega), if_neg (by omega), if_neg (by omega), if_pos (by omega)]; assumption) | (rw [if_neg (by omega), if_neg (by omega), if_neg (by omega), if_neg (by omega), if_pos (by omega)]; assumption) | (rw [if_neg (by omega), if_neg (by omega), if_neg (by omega), if_neg (by omega), if_neg (by omega), if_pos (by omega)]) | (rw [if_neg (by omega), if_neg (by omega), if_neg (by omega), if_neg (by omega), if_neg (by omega), if_neg (by omega), if_pos (by omega)]) | (rw [if_neg (by omega), if_neg (by omega), if_neg (by omega), if_neg (by omega), if_neg (by omega), if_neg (by omega), if_neg (by omega), if_pos (by omega)]) | (rw [if_neg (by omega), if_neg (by omega), if_neg (by omega), if_neg (by omega), if_neg (by omega), if_neg (by omega), if_neg (by omega), if_neg (by omega)])
                · refine ⟨?_, ?_⟩
                  · intro h8
                    refine ⟨rfl, ?_⟩
                    first | (rw [if_pos (by omega)]; assumption) | (rw [if_neg (by omega), if_pos (by omega)]) | (rw [if_neg (by omega), if_neg (by omega), if_pos (by omega)]) | (rw [if_neg (by omega), if_neg (by omega), if_neg (by omega), if_pos (by omega)]; assumption) | (rw [if_neg (by omega), if_neg (by omega), if_neg (by omega), if_neg (by omega), if_pos (by omega)]; assumption) | (rw [if_neg (by omega), if_neg (by omega), if_neg (by omega), if_neg (by omega), if_neg (by omega), if_pos (by omega)]) | (rw [if_neg (by omega), if_neg (by omega), if_neg (by omega), if_neg (by omega), if_neg (by omega), if_neg (by omega), if_pos (by omega)]) | (rw [if_neg (by omega), if_neg (by omega), if_neg (by omega), if_neg (by omega), if_neg (by omega), if_neg (by omega), if_neg (by omega), if_pos (by omega)]) | (rw [if_neg (by omega), if_neg (by omega), if_neg (by omega), if_neg (by omega), if_neg (by omega), if_neg (by omega), if_neg (by omega), if_neg (by omega)])
                  · trivial
  · intro h9
    refine ⟨rfl, ?_⟩
    first | (rw [if_pos (by omega)]; assumption) | (rw [if_neg (by omega), if_pos (by omega)]) | (rw [if_neg (by omega), if_neg (by omega), if_pos (by omega)]) | (rw [if_neg (by omega), if_neg (by omega), if_neg (by omega), if_pos (by omega)]; assumption) | (rw [if_neg (by omega), if_neg (by omega), if_neg (by omega), if_neg (by omega), if_pos (by omega)]; assumption) | (rw [if_neg (by omega), if_neg (by omega), if_neg (by omega), if_neg (by omega), if_neg (by omega), if_pos (by omega)]) | (rw [if_neg (by omega), if_neg (by omega), if_neg (by omega), if_neg (by omega), if_neg (by omega), if_neg (by omega), if_pos (by omega)]) | (rw [if_neg (by omega), if_neg (by omega), if_neg (by omega), if_neg (by omega), if_neg (by omega), if_neg (by omega), if_neg (by omega), if_pos (by omega)]) | (rw [if_neg (by omega), if_neg (by omega), if_neg (by omega), if_neg (by omega), if_neg (by omega), if_neg (by omega), if_neg (by omega), if_neg (by omega)])
