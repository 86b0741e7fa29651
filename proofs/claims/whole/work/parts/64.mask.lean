/-! the model's asks -/
def zbm (σ : zS) (b : Int) : zS := if σ 9 28 < 16 then zup (zup σ 54 (σ 9 28) b) 9 28 (σ 9 28 + 1) else σ
theorem zbm_o {σ : zS} {b : Int} {k : Nat} (h : k ≠ 9) (h2 : k ≠ 54) : zbm σ b k = σ k := by
  unfold zbm
  split
  · rw [zup_ne h, zup_ne h2]
  · rfl
theorem zbm_9 {σ : zS} {b j : Int} (h : ¬ j = 28) : zbm σ b 9 j = σ 9 j := by
  unfold zbm
  split
  · rw [zup_at, if_neg h, zup_ne (by decide)]
  · rfl
theorem zbm_n {σ : zS} {b : Int} (h : 0 ≤ σ 9 28) : 0 ≤ zbm σ b 9 28 := by
  unfold zbm
  split
  · rw [zup_at, if_pos rfl]; omega
  · exact h
theorem zwm_congr {σ : zS} {m w : Int} {g g' : Int → Int} (h : ∀ k : Int, 0 ≤ k → k < m → g k = g' k) : zwm σ m g w ↔ zwm σ m g' w :=
  ⟨fun z => ⟨z.1, fun k a b => by rw [← h k a b]; exact z.2 k a b⟩, fun z => ⟨z.1, fun k a b => by rw [h k a b]; exact z.2 k a b⟩⟩
theorem zfil_congr {σ : zS} {m w : Int} {g g' : Int → Int} (h : ∀ k : Int, 0 ≤ k → k < m → g k = g' k) : zfil σ m g w ↔ zfil σ m g' w := by
  have e : ∀ x, zwm σ m g x ↔ zwm σ m g' x := fun x => zwm_congr h
  unfold zfil
  simp only [e]
theorem zFW_u {u : zS} {i w w' : Int} (h : zFW u i w) (h' : zFW u i w') (hn : ¬ u 56 i = 0) : w = w' := by
  obtain ⟨ga, ma, a1, a2, a3, a4, a5⟩ := h hn
  obtain ⟨gb, mb, b1, b2, b3, b4, b5⟩ := h' hn
  have em : ma = mb := by omega
  subst em
  refine zfil_u a5 ((zfil_congr (fun k k0 k1 => ?_)).mp b5)
  show gb k.toNat = ga k.toNat
  rw [← zrt_dig a1 (k := k.toNat) (by omega), ← zrt_dig b1 (k := k.toNat) (by omega), ← a3, ← b3]
/-- only the trace differs -/
def zTQ (σ u : zS) : Prop := zfr [9, 54] σ u ∧ (∀ j : Int, ¬ j = 28 → u 9 j = σ 9 j) ∧ 0 ≤ u 9 28
theorem zTQ.rf {σ : zS} (h : 0 ≤ σ 9 28) : zTQ σ σ := ⟨zfr.rf, fun _ _ => rfl, h⟩
theorem zTQ.bm {σ u : zS} {b : Int} (h : zTQ σ u) : zTQ σ (zbm u b) := by
  obtain ⟨h1, h2, h3⟩ := h
  refine ⟨fun k hk => ?_, fun j hj => ?_, zbm_n h3⟩
  · rw [zbm_o (fun z => hk (by rw [z]; decide)) (fun z => hk (by rw [z]; decide))]; exact h1 k hk
  · rw [zbm_9 hj]; exact h2 j hj
theorem zTQ.fil {σ u : zS} {m w : Int} {g : Int → Int} (h : zTQ σ u) : zfil u m g w ↔ zfil σ m g w := by
  unfold zfil zwm
  rw [h.2.1 22 (by decide), h.1 51 (by decide), h.1 52 (by decide)]
theorem zTQ.FW {σ u : zS} {i w : Int} (h : zTQ σ u) : zFW u i w ↔ zFW σ i w := by
  unfold zFW zfil zwm
  rw [h.2.1 22 (by decide), h.1 51 (by decide), h.1 52 (by decide), h.1 56 (by decide), h.1 58 (by decide), h.1 59 (by decide)]
theorem zTQ.mk {σ u : zS} {i w : Int} (h : zTQ σ u) : zmkM u i w = zmkM σ i w := by
  unfold zmkM
  rw [h.1 56 (by decide), h.1 57 (by decide)]
theorem zTQ.MQ {σ u : zS} (h : zTQ σ u) (hM : zMQ2 σ) : zMQ2 u := by
  refine ⟨zMO_fr hM.1 ⟨h.2.1 13 (by decide), h.2.1 5 (by decide)⟩ (h.1 42 (by decide)) (h.1 45 (by decide)) (h.1 47 (by decide)), zMI_fr hM.2.1 (fun k hk => h.1 k (fun z => ?_)) (h.2.1 13 (by decide)), ?_⟩
  · simp only [List.mem_cons, List.not_mem_nil, or_false] at hk z
    omega
  · unfold zML
    rw [h.2.1 22 (by decide)]
    exact hM.2.2
theorem zNW_MQ {σ u : zS} {i : Int} (h : zNW σ u i) (hM : zMQ2 σ) : zMQ2 u := by
  refine ⟨zMO_fr hM.1 ⟨by rw [h.1 9 (by decide)], by rw [h.1 9 (by decide)]⟩ (h.1 42 (by decide)) (h.1 45 (by decide)) (h.1 47 (by decide)), h.2.1, ?_⟩
  unfold zML
  rw [h.1 9 (by decide)]
  exact hM.2.2
def zMKm (σ : zS) (k : Int) : zS := if k = 3 then zbm (zbm (zbm σ 22) 21) 20 else if 1 < k then zbm (zbm σ 21) 20 else zbm σ 20
def zMKw (σ : zS) (i k w : Int) : Int := if k = 3 then σ 46 i + 100 + w else if 1 < k then σ 46 i + 100 else σ 46 i
theorem zmkM_r {u : zS} {i w : Int} : 0 ≤ zmkM u i w ∧ zmkM u i w ≤ 3 ∧ (zmkM u i w = 3 → ¬ w = -1000000) ∧ (1 ≤ zmkM u i w → ¬ u 56 i = 0) := by
  unfold zmkM
  split
  · omega
  · split
    · omega
    · split <;> omega
set_option maxRecDepth 100000 in
set_option maxHeartbeats 4000000 in
theorem am_X9_mark {σ : zS} {i : Int} (hM : zMQ2 σ) (hi : 0 ≤ i ∧ i < σ 9 13) (h28 : 0 ≤ σ 9 28) (hd : 0 ≤ σ 46 i ∧ σ 46 i ≤ 40) : zAM 152 [.inr (.inr (9, 0)), .inl i] σ (fun (v : Int) (u : zS) => ∃ τ : zS, zNW σ τ i ∧ ∃ w : Int, zFW τ i w ∧ zMKm τ (zmkM τ i w) = u ∧ zMKw τ i (zmkM τ i w) w = v) := by
  refine zam (by decide) (Nat.le_of_ble_eq_true rfl) ?_
  refine zwalk zmk_152 [] 6 ?_
  show (∃ Rc : Int → zS → Prop, zAM 147 [.inr (.inr (9, 0)), .inl i] σ Rc ∧ ∀ (v1 : Int) (u1 : zS), zI v1 → Rc v1 u1 → ((¬ v1 = (3 : Int) → ((v1 ≤ (1 : Int) → (∃ Rc : Int → zS → Prop, zAM 151 [.inr (.inr (9, 0)), .inl (20 : Int)] u1 Rc ∧ ∀ (u2 : zS), Rc 0 u2 → ((0 ≤ i ∧ i < (40 : Int)) ∧ ((v1 ≤ (1 : Int) → (zI ((u2 46 i) + (0 : Int)) ∧ ((¬ v1 = (3 : Int) → (zI (((u2 46 i) + (0 : Int)) + (0 : Int)) ∧ (∃ τ : zS, zNW σ τ i ∧ ∃ w : Int, zFW τ i w ∧ zMKm τ (zmkM τ i w) = u2 ∧ zMKw τ i (zmkM τ i w) w = (((u2 46 i) + (0 : Int)) + (0 : Int))))) ∧ (v1 = (3 : Int) → (∃ Rc : Int → zS → Prop, zAM 148 [.inr (.inr (9, 0)), .inl i] u2 Rc ∧ ∀ (v3 : Int) (u3 : zS), zI v3 → Rc v3 u3 → (zI (((u2 46 i) + (0 : Int)) + v3) ∧ (∃ τ : zS, zNW σ τ i ∧ ∃ w : Int, zFW τ i w ∧ zMKm τ (zmkM τ i w) = u3 ∧ zMKw τ i (zmkM τ i w) w = (((u2 46 i) + (0 : Int)) + v3)))))))) ∧ ((1 : Int) < v1 → (zI ((u2 46 i) + (100 : Int)) ∧ ((¬ v1 = (3 : Int) → (zI (((u2 46 i) + (100 : Int)) + (0 : Int)) ∧ (∃ τ : zS, zNW σ τ i ∧ ∃ w : Int, zFW τ i w ∧ zMKm τ (zmkM τ i w) = u2 ∧ zMKw τ i (zmkM τ i w) w = (((u2 46 i) + (100 : Int)) + (0 : Int))))) ∧ (v1 = (3 : Int) → (∃ Rc : Int → zS → Prop, zAM 148 [.inr (.inr (9, 0)), .inl i] u2 Rc ∧ ∀ (v4 : Int) (u4 : zS), zI v4 → Rc v4 u4 → (zI (((u2 46 i) + (100 : Int)) + v4) ∧ (∃ τ : zS, zNW σ τ i ∧ ∃ w : Int, zFW τ i w ∧ zMKm τ (zmkM τ i w) = u4 ∧ zMKw τ i (zmkM τ i w) w = (((u2 46 i) + (100 : Int)) + v4)))))))))))) ∧ ((1 : Int) < v1 → (∃ Rc : Int → zS → Prop, zAM 151 [.inr (.inr (9, 0)), .inl (21 : Int)] u1 Rc ∧ ∀ (u5 : zS), Rc 0 u5 → (∃ Rc : Int → zS → Prop, zAM 151 [.inr (.inr (9, 0)), .inl (20 : Int)] u5 Rc ∧ ∀ (u6 : zS), Rc 0 u6 → ((0 ≤ i ∧ i < (40 : Int)) ∧ ((v1 ≤ (1 : Int) → (zI ((u6 46 i) + (0 : Int)) ∧ ((¬ v1 = (3 : Int) → (zI (((u6 46 i) + (0 : Int)) + (0 : Int)) ∧ (∃ τ : zS, zNW σ τ i ∧ ∃ w : Int, zFW τ i w ∧ zMKm τ (zmkM τ i w) = u6 ∧ zMKw τ i (zmkM τ i w) w = (((u6 46 i) + (0 : Int)) + (0 : Int))))) ∧ (v1 = (3 : Int) → (∃ Rc : Int → zS → Prop, zAM 148 [.inr (.inr (9, 0)), .inl i] u6 Rc ∧ ∀ (v7 : Int) (u7 : zS), zI v7 → Rc v7 u7 → (zI (((u6 46 i) + (0 : Int)) + v7) ∧ (∃ τ : zS, zNW σ τ i ∧ ∃ w : Int, zFW τ i w ∧ zMKm τ (zmkM τ i w) = u7 ∧ zMKw τ i (zmkM τ i w) w = (((u6 46 i) + (0 : Int)) + v7)))))))) ∧ ((1 : Int) < v1 → (zI ((u6 46 i) + (100 : Int)) ∧ ((¬ v1 = (3 : Int) → (zI (((u6 46 i) + (100 : Int)) + (0 : Int)) ∧ (∃ τ : zS, zNW σ τ i ∧ ∃ w : Int, zFW τ i w ∧ zMKm τ (zmkM τ i w) = u6 ∧ zMKw τ i (zmkM τ i w) w = (((u6 46 i) + (100 : Int)) + (0 : Int))))) ∧ (v1 = (3 : Int) → (∃ Rc : Int → zS → Prop, zAM 148 [.inr (.inr (9, 0)), .inl i] u6 Rc ∧ ∀ (v8 : Int) (u8 : zS), zI v8 → Rc v8 u8 → (zI (((u6 46 i) + (100 : Int)) + v8) ∧ (∃ τ : zS, zNW σ τ i ∧ ∃ w : Int, zFW τ i w ∧ zMKm τ (zmkM τ i w) = u8 ∧ zMKw τ i (zmkM τ i w) w = (((u6 46 i) + (100 : Int)) + v8))))))))))))))) ∧ (v1 = (3 : Int) → (∃ Rc : Int → zS → Prop, zAM 151 [.inr (.inr (9, 0)), .inl (22 : Int)] u1 Rc ∧ ∀ (u9 : zS), Rc 0 u9 → ((v1 ≤ (1 : Int) → (∃ Rc : Int → zS → Prop, zAM 151 [.inr (.inr (9, 0)), .inl (20 : Int)] u9 Rc ∧ ∀ (u10 : zS), Rc 0 u10 → ((0 ≤ i ∧ i < (40 : Int)) ∧ ((v1 ≤ (1 : Int) → (zI ((u10 46 i) + (0 : Int)) ∧ ((¬ v1 = (3 : Int) → (zI (((u10 46 i) + (0 : Int)) + (0 : Int)) ∧ (∃ τ : zS, zNW σ τ i ∧ ∃ w : Int, zFW τ i w ∧ zMKm τ (zmkM τ i w) = u10 ∧ zMKw τ i (zmkM τ i w) w = (((u10 46 i) + (0 : Int)) + (0 : Int))))) ∧ (v1 = (3 : Int) → (∃ Rc : Int → zS → Prop, zAM 148 [.inr (.inr (9, 0)), .inl i] u10 Rc ∧ ∀ (v11 : Int) (u11 : zS), zI v11 → Rc v11 u11 → (zI (((u10 46 i) + (0 : Int)) + v11) ∧ (∃ τ : zS, zNW σ τ i ∧ ∃ w : Int, zFW τ i w ∧ zMKm τ (zmkM τ i w) = u11 ∧ zMKw τ i (zmkM τ i w) w = (((u10 46 i) + (0 : Int)) + v11)))))))) ∧ ((1 : Int) < v1 → (zI ((u10 46 i) + (100 : Int)) ∧ ((¬ v1 = (3 : Int) → (zI (((u10 46 i) + (100 : Int)) + (0 : Int)) ∧ (∃ τ : zS, zNW σ τ i ∧ ∃ w : Int, zFW τ i w ∧ zMKm τ (zmkM τ i w) = u10 ∧ zMKw τ i (zmkM τ i w) w = (((u10 46 i) + (100 : Int)) + (0 : Int))))) ∧ (v1 = (3 : Int) → (∃ Rc : Int → zS → Prop, zAM 148 [.inr (.inr (9, 0)), .inl i] u10 Rc ∧ ∀ (v12 : Int) (u12 : zS), zI v12 → Rc v12 u12 → (zI (((u10 46 i) + (100 : Int)) + v12) ∧ (∃ τ : zS, zNW σ τ i ∧ ∃ w : Int, zFW τ i w ∧ zMKm τ (zmkM τ i w) = u12 ∧ zMKw τ i (zmkM τ i w) w = (((u10 46 i) + (100 : Int)) + v12)))))))))))) ∧ ((1 : Int) < v1 → (∃ Rc : Int → zS → Prop, zAM 151 [.inr (.inr (9, 0)), .inl (21 : Int)] u9 Rc ∧ ∀ (u13 : zS), Rc 0 u13 → (∃ Rc : Int → zS → Prop, zAM 151 [.inr (.inr (9, 0)), .inl (20 : Int)] u13 Rc ∧ ∀ (u14 : zS), Rc 0 u14 → ((0 ≤ i ∧ i < (40 : Int)) ∧ ((v1 ≤ (1 : Int) → (zI ((u14 46 i) + (0 : Int)) ∧ ((¬ v1 = (3 : Int) → (zI (((u14 46 i) + (0 : Int)) + (0 : Int)) ∧ (∃ τ : zS, zNW σ τ i ∧ ∃ w : Int, zFW τ i w ∧ zMKm τ (zmkM τ i w) = u14 ∧ zMKw τ i (zmkM τ i w) w = (((u14 46 i) + (0 : Int)) + (0 : Int))))) ∧ (v1 = (3 : Int) → (∃ Rc : Int → zS → Prop, zAM 148 [.inr (.inr (9, 0)), .inl i] u14 Rc ∧ ∀ (v15 : Int) (u15 : zS), zI v15 → Rc v15 u15 → (zI (((u14 46 i) + (0 : Int)) + v15) ∧ (∃ τ : zS, zNW σ τ i ∧ ∃ w : Int, zFW τ i w ∧ zMKm τ (zmkM τ i w) = u15 ∧ zMKw τ i (zmkM τ i w) w = (((u14 46 i) + (0 : Int)) + v15)))))))) ∧ ((1 : Int) < v1 → (zI ((u14 46 i) + (100 : Int)) ∧ ((¬ v1 = (3 : Int) → (zI (((u14 46 i) + (100 : Int)) + (0 : Int)) ∧ (∃ τ : zS, zNW σ τ i ∧ ∃ w : Int, zFW τ i w ∧ zMKm τ (zmkM τ i w) = u14 ∧ zMKw τ i (zmkM τ i w) w = (((u14 46 i) + (100 : Int)) + (0 : Int))))) ∧ (v1 = (3 : Int) → (∃ Rc : Int → zS → Prop, zAM 148 [.inr (.inr (9, 0)), .inl i] u14 Rc ∧ ∀ (v16 : Int) (u16 : zS), zI v16 → Rc v16 u16 → (zI (((u14 46 i) + (100 : Int)) + v16) ∧ (∃ τ : zS, zNW σ τ i ∧ ∃ w : Int, zFW τ i w ∧ zMKm τ (zmkM τ i w) = u16 ∧ zMKw τ i (zmkM τ i w) w = (((u14 46 i) + (100 : Int)) + v16))))))))))))))))))
  refine ⟨_, am_X9_kindOf (hM) (hi), ?_⟩
  intro v1 u1 hv1
  intro kv1
  obtain ⟨hv1a, hv1b⟩ := hv1
  obtain ⟨hN, w0, hw0, hwk⟩ := kv1
  have hkr := zmkM_r (u := u1) (i := i) (w := w0)
  have h13 := hM.1.1
  have hL2 := (zNW_MQ hN hM).2.2
  have e46 : u1 46 i = σ 46 i := by rw [hN.1 46 (by decide)]
  have hq9 : zTQ u1 u1 := zTQ.rf (by rw [hN.1 9 (by decide)]; exact h28)
  refine ⟨?_, ?_⟩
  · intro h1
    refine ⟨?_, ?_⟩
    · intro h2
      refine ⟨_, am_X9_begins (hq9.2.2), ?_⟩
      intro u2
      intro kv2
      obtain rfl := (show zbm _ (20 : Int) = u2 from kv2)
      replace hq9 := hq9.bm (b := (20 : Int))
      refine ⟨by (omega), ?_⟩
      refine ⟨?_, ?_⟩
      · intro h3
        refine ⟨by ((have z46 := hq9.1 46 (by decide); have z46i := congrFun z46 i; exact ⟨by omega, by omega⟩)), ?_⟩
        refine ⟨?_, ?_⟩
        · intro h4
          refine ⟨by ((have z46 := hq9.1 46 (by decide); have z46i := congrFun z46 i; exact ⟨by omega, by omega⟩)), ?_⟩
          have z46 := hq9.1 46 (by decide)
          have z46i := congrFun z46 i
          refine ⟨_, hN, w0, hw0, ?_, ?_⟩
          · rw [hwk]; unfold zMKm
            first | (exfalso; omega) | (rw [if_pos (by omega)]) | (rw [if_neg (by omega), if_pos (by omega)]) | (rw [if_neg (by omega), if_neg (by omega)])
          · rw [hwk]; unfold zMKw
            first | (rw [if_pos (by omega)]; omega) | (rw [if_neg (by omega), if_pos (by omega)]; omega) | (rw [if_neg (by omega), if_neg (by omega)]; omega) | (exfalso; omega)
        · intro h5
          obtain ⟨g, m9, g1, g2, g3, g4, g5⟩ := hw0 (hkr.2.2.2 (by omega))
          have z58 := hq9.1 58 (by decide)
          have z59 := hq9.1 59 (by decide)
          have z46 := hq9.1 46 (by decide)
          have z46i := congrFun z46 i
          refine ⟨_, am_X9_firstInList (g := g) (m9 := m9) (by omega) (g1) (g2.2) (by rw [z58]; exact g3) (by rw [z59]; exact g4) (by rw [hq9.2.1 22 (by decide)]; exact hL2), ?_⟩
          intro v3 u3 hv3
          intro kv3
          obtain ⟨hv3a, hv3b⟩ := hv3
          obtain ⟨rfl, g6⟩ := kv3
          rw [hq9.fil] at g6
          have g7 := zfil_u g5 g6
          have g8 := zfil_r g6 hL2.2
          have g9 := hkr.2.2.1 (by omega)
          refine ⟨by ((have z46 := hq9.1 46 (by decide); have z46i := congrFun z46 i; exact ⟨by omega, by omega⟩)), ?_⟩
          have z46 := hq9.1 46 (by decide)
          have z46i := congrFun z46 i
          refine ⟨_, hN, w0, hw0, ?_, ?_⟩
          · rw [hwk]; unfold zMKm
            first | (exfalso; omega) | (rw [if_pos (by omega)]) | (rw [if_neg (by omega), if_pos (by omega)]) | (rw [if_neg (by omega), if_neg (by omega)])
          · rw [hwk]; unfold zMKw
            first | (rw [if_pos (by omega)]; omega) | (rw [if_neg (by omega), if_pos (by omega)]; omega) | (rw [if_neg (by omega), if_neg (by omega)]; omega) | (exfalso; omega)
      · intro h6
        refine ⟨by ((have z46 := hq9.1 46 (by decide); have z46i := congrFun z46 i; exact ⟨by omega, by omega⟩)), ?_⟩
        refine ⟨?_, ?_⟩
        · intro h7
          refine ⟨by ((have z46 := hq9.1 46 (by decide); have z46i := congrFun z46 i; exact ⟨by omega, by omega⟩)), ?_⟩
          have z46 := hq9.1 46 (by decide)
          have z46i := congrFun z46 i
          refine ⟨_, hN, w0, hw0, ?_, ?_⟩
          · rw [hwk]; unfold zMKm
            first | (exfalso; omega) | (rw [if_pos (by omega)]) | (rw [if_neg (by omega), if_pos (by omega)]) | (rw [if_neg (by omega), if_neg (by omega)])
          · rw [hwk]; unfold zMKw
            first | (rw [if_pos (by omega)]; omega) | (rw [if_neg (by omega), if_pos (by omega)]; omega) | (rw [if_neg (by omega), if_neg (by omega)]; omega) | (exfalso; omega)
        · intro h8
          obtain ⟨g, m9, g1, g2, g3, g4, g5⟩ := hw0 (hkr.2.2.2 (by omega))
          have z58 := hq9.1 58 (by decide)
          have z59 := hq9.1 59 (by decide)
          have z46 := hq9.1 46 (by decide)
          have z46i := congrFun z46 i
          refine ⟨_, am_X9_firstInList (g := g) (m9 := m9) (by omega) (g1) (g2.2) (by rw [z58]; exact g3) (by rw [z59]; exact g4) (by rw [hq9.2.1 22 (by decide)]; exact hL2), ?_⟩
          intro v4 u4 hv4
          intro kv4
          obtain ⟨hv4a, hv4b⟩ := hv4
          obtain ⟨rfl, g6⟩ := kv4
          rw [hq9.fil] at g6
          have g7 := zfil_u g5 g6
          have g8 := zfil_r g6 hL2.2
          have g9 := hkr.2.2.1 (by omega)
          refine ⟨by ((have z46 := hq9.1 46 (by decide); have z46i := congrFun z46 i; exact ⟨by omega, by omega⟩)), ?_⟩
          have z46 := hq9.1 46 (by decide)
          have z46i := congrFun z46 i
          refine ⟨_, hN, w0, hw0, ?_, ?_⟩
          · rw [hwk]; unfold zMKm
            first | (exfalso; omega) | (rw [if_pos (by omega)]) | (rw [if_neg (by omega), if_pos (by omega)]) | (rw [if_neg (by omega), if_neg (by omega)])
          · rw [hwk]; unfold zMKw
            first | (rw [if_pos (by omega)]; omega) | (rw [if_neg (by omega), if_pos (by omega)]; omega) | (rw [if_neg (by omega), if_neg (by omega)]; omega) | (exfalso; omega)
    · intro h9
      refine ⟨_, am_X9_begins (hq9.2.2), ?_⟩
      intro u5
      intro kv5
      obtain rfl := (show zbm _ (21 : Int) = u5 from kv5)
      replace hq9 := hq9.bm (b := (21 : Int))
      refine ⟨_, am_X9_begins (hq9.2.2), ?_⟩
      intro u6
      intro kv6
      obtain rfl := (show zbm _ (20 : Int) = u6 from kv6)
      replace hq9 := hq9.bm (b := (20 : Int))
      refine ⟨by (omega), ?_⟩
      refine ⟨?_, ?_⟩
      · intro h10
        refine ⟨by ((have z46 := hq9.1 46 (by decide); have z46i := congrFun z46 i; exact ⟨by omega, by omega⟩)), ?_⟩
        refine ⟨?_, ?_⟩
        · intro h11
          refine ⟨by ((have z46 := hq9.1 46 (by decide); have z46i := congrFun z46 i; exact ⟨by omega, by omega⟩)), ?_⟩
          have z46 := hq9.1 46 (by decide)
          have z46i := congrFun z46 i
          refine ⟨_, hN, w0, hw0, ?_, ?_⟩
          · rw [hwk]; unfold zMKm
            first | (exfalso; omega) | (rw [if_pos (by omega)]) | (rw [if_neg (by omega), if_pos (by omega)]) | (rw [if_neg (by omega), if_neg (by omega)])
          · rw [hwk]; unfold zMKw
            first | (rw [if_pos (by omega)]; omega) | (rw [if_neg (by omega), if_pos (by omega)]; omega) | (rw [if_neg (by omega), if_neg (by omega)]; omega) | (exfalso; omega)
        · intro h12
          obtain ⟨g, m9, g1, g2, g3, g4, g5⟩ := hw0 (hkr.2.2.2 (by omega))
          have z58 := hq9.1 58 (by decide)
          have z59 := hq9.1 59 (by decide)
          have z46 := hq9.1 46 (by decide)
          have z46i := congrFun z46 i
          refine ⟨_, am_X9_firstInList (g := g) (m9 := m9) (by omega) (g1) (g2.2) (by rw [z58]; exact g3) (by rw [z59]; exact g4) (by rw [hq9.2.1 22 (by decide)]; exact hL2), ?_⟩
          intro v7 u7 hv7
          intro kv7
          obtain ⟨hv7a, hv7b⟩ := hv7
          obtain ⟨rfl, g6⟩ := kv7
          rw [hq9.fil] at g6
          have g7 := zfil_u g5 g6
          have g8 := zfil_r g6 hL2.2
          have g9 := hkr.2.2.1 (by omega)
          refine ⟨by ((have z46 := hq9.1 46 (by decide); have z46i := congrFun z46 i; exact ⟨by omega, by omega⟩)), ?_⟩
          have z46 := hq9.1 46 (by decide)
          have z46i := congrFun z46 i
          refine ⟨_, hN, w0, hw0, ?_, ?_⟩
          · rw [hwk]; unfold zMKm
            first | (exfalso; omega) | (rw [if_pos (by omega)]) | (rw [if_neg (by omega), if_pos (by omega)]) | (rw [if_neg (by omega), if_neg (by omega)])
          · rw [hwk]; unfold zMKw
            first | (rw [if_pos (by omega)]; omega) | (rw [if_neg (by omega), if_pos (by omega)]; omega) | (rw [if_neg (by omega), if_neg (by omega)]; omega) | (exfalso; omega)
      · intro h13
        refine ⟨by ((have z46 := hq9.1 46 (by decide); have z46i := congrFun z46 i; exact ⟨by omega, by omega⟩)), ?_⟩
        refine ⟨?_, ?_⟩
        · intro h14
          refine ⟨by ((have z46 := hq9.1 46 (by decide); have z46i := congrFun z46 i; exact ⟨by omega, by omega⟩)), ?_⟩
          have z46 := hq9.1 46 (by decide)
          have z46i := congrFun z46 i
          refine ⟨_, hN, w0, hw0, ?_, ?_⟩
          · rw [hwk]; unfold zMKm
            first | (exfalso; omega) | (rw [if_pos (by omega)]) | (rw [if_neg (by omega), if_pos (by omega)]) | (rw [if_neg (by omega), if_neg (by omega)])
          · rw [hwk]; unfold zMKw
            first | (rw [if_pos (by omega)]; omega) | (rw [if_neg (by omega), if_pos (by omega)]; omega) | (rw [if_neg (by omega), if_neg (by omega)]; omega) | (exfalso; omega)
        · intro h15
          obtain ⟨g, m9, g1, g2, g3, g4, g5⟩ := hw0 (hkr.2.2.2 (by omega))
          have z58 := hq9.1 58 (by decide)
          have z59 := hq9.1 59 (by decide)
          have z46 := hq9.1 46 (by decide)
          have z46i := congrFun z46 i
          refine ⟨_, am_X9_firstInList (g := g) (m9 := m9) (by omega) (g1) (g2.2) (by rw [z58]; exact g3) (by rw [z59]; exact g4) (by rw [hq9.2.1 22 (by decide)]; exact hL2), ?_⟩
          intro v8 u8 hv8
          intro kv8
          obtain ⟨hv8a, hv8b⟩ := hv8
          obtain ⟨rfl, g6⟩ := kv8
          rw [hq9.fil] at g6
          have g7 := zfil_u g5 g6
          have g8 := zfil_r g6 hL2.2
          have g9 := hkr.2.2.1 (by omega)
          refine ⟨by ((have z46 := hq9.1 46 (by decide); have z46i := congrFun z46 i; exact ⟨by omega, by omega⟩)), ?_⟩
          have z46 := hq9.1 46 (by decide)
          have z46i := congrFun z46 i
          refine ⟨_, hN, w0, hw0, ?_, ?_⟩
          · rw [hwk]; unfold zMKm
            first | (exfalso; omega) | (rw [if_pos (by omega)]) | (rw [if_neg (by omega), if_pos (by omega)]) | (rw [if_neg (by omega), if_neg (by omega)])
          · rw [hwk]; unfold zMKw
            first | (rw [if_pos (by omega)]; omega) | (rw [if_neg (by omega), if_pos (by omega)]; omega) | (rw [if_neg (by omega), if_neg (by omega)]; omega) | (exfalso; omega)
  · intro h16
    refine ⟨_, am_X9_begins (hq9.2.2), ?_⟩
    intro u9
    intro kv9
    obtain rfl := (show zbm _ (22 : Int) = u9 from kv9)
    replace hq9 := hq9.bm (b := (22 : Int))
    refine ⟨?_, ?_⟩
    · intro h17
      refine ⟨_, am_X9_begins (hq9.2.2), ?_⟩
      intro u10
      intro kv10
      obtain rfl := (show zbm _ (20 : Int) = u10 from kv10)
      replace hq9 := hq9.bm (b := (20 : Int))
      refine ⟨by (omega), ?_⟩
      refine ⟨?_, ?_⟩
      · intro h18
        refine ⟨by ((have z46 := hq9.1 46 (by decide); have z46i := congrFun z46 i; exact ⟨by omega, by omega⟩)), ?_⟩
        refine ⟨?_, ?_⟩
        · intro h19
          refine ⟨by ((have z46 := hq9.1 46 (by decide); have z46i := congrFun z46 i; exact ⟨by omega, by omega⟩)), ?_⟩
          have z46 := hq9.1 46 (by decide)
          have z46i := congrFun z46 i
          refine ⟨_, hN, w0, hw0, ?_, ?_⟩
          · rw [hwk]; unfold zMKm
            first | (exfalso; omega) | (rw [if_pos (by omega)]) | (rw [if_neg (by omega), if_pos (by omega)]) | (rw [if_neg (by omega), if_neg (by omega)])
          · rw [hwk]; unfold zMKw
            first | (rw [if_pos (by omega)]; omega) | (rw [if_neg (by omega), if_pos (by omega)]; omega) | (rw [if_neg (by omega), if_neg (by omega)]; omega) | (exfalso; omega)
        · intro h20
          obtain ⟨g, m9, g1, g2, g3, g4, g5⟩ := hw0 (hkr.2.2.2 (by omega))
          have z58 := hq9.1 58 (by decide)
          have z59 := hq9.1 59 (by decide)
          have z46 := hq9.1 46 (by decide)
          have z46i := congrFun z46 i
          refine ⟨_, am_X9_firstInList (g := g) (m9 := m9) (by omega) (g1) (g2.2) (by rw [z58]; exact g3) (by rw [z59]; exact g4) (by rw [hq9.2.1 22 (by decide)]; exact hL2), ?_⟩
          intro v11 u11 hv11
          intro kv11
          obtain ⟨hv11a, hv11b⟩ := hv11
          obtain ⟨rfl, g6⟩ := kv11
          rw [hq9.fil] at g6
          have g7 := zfil_u g5 g6
          have g8 := zfil_r g6 hL2.2
          have g9 := hkr.2.2.1 (by omega)
          refine ⟨by ((have z46 := hq9.1 46 (by decide); have z46i := congrFun z46 i; exact ⟨by omega, by omega⟩)), ?_⟩
          have z46 := hq9.1 46 (by decide)
          have z46i := congrFun z46 i
          refine ⟨_, hN, w0, hw0, ?_, ?_⟩
          · rw [hwk]; unfold zMKm
            first | (exfalso; omega) | (rw [if_pos (by omega)]) | (rw [if_neg (by omega), if_pos (by omega)]) | (rw [if_neg (by omega), if_neg (by omega)])
          · rw [hwk]; unfold zMKw
            first | (rw [if_pos (by omega)]; omega) | (rw [if_neg (by omega), if_pos (by omega)]; omega) | (rw [if_neg (by omega), if_neg (by omega)]; omega) | (exfalso; omega)
      · intro h21
        refine ⟨by ((have z46 := hq9.1 46 (by decide); have z46i := congrFun z46 i; exact ⟨by omega, by omega⟩)), ?_⟩
        refine ⟨?_, ?_⟩
        · intro h22
          refine ⟨by ((have z46 := hq9.1 46 (by decide); have z46i := congrFun z46 i; exact ⟨by omega, by omega⟩)), ?_⟩
          have z46 := hq9.1 46 (by decide)
          have z46i := congrFun z46 i
          refine ⟨_, hN, w0, hw0, ?_, ?_⟩
          · rw [hwk]; unfold zMKm
            first | (exfalso; omega) | (rw [if_pos (by omega)]) | (rw [if_neg (by omega), if_pos (by omega)]) | (rw [if_neg (by omega), if_neg (by omega)])
          · rw [hwk]; unfold zMKw
            first | (rw [if_pos (by omega)]; omega) | (rw [if_neg (by omega), if_pos (by omega)]; omega) | (rw [if_neg (by omega), if_neg (by omega)]; omega) | (exfalso; omega)
        · intro h23
          obtain ⟨g, m9, g1, g2, g3, g4, g5⟩ := hw0 (hkr.2.2.2 (by omega))
          have z58 := hq9.1 58 (by decide)
          have z59 := hq9.1 59 (by decide)
          have z46 := hq9.1 46 (by decide)
          have z46i := congrFun z46 i
          refine ⟨_, am_X9_firstInList (g := g) (m9 := m9) (by omega) (g1) (g2.2) (by rw [z58]; exact g3) (by rw [z59]; exact g4) (by rw [hq9.2.1 22 (by decide)]; exact hL2), ?_⟩
          intro v12 u12 hv12
          intro kv12
          obtain ⟨hv12a, hv12b⟩ := hv12
          obtain ⟨rfl, g6⟩ := kv12
          rw [hq9.fil] at g6
          have g7 := zfil_u g5 g6
          have g8 := zfil_r g6 hL2.2
          have g9 := hkr.2.2.1 (by omega)
          refine ⟨by ((have z46 := hq9.1 46 (by decide); have z46i := congrFun z46 i; exact ⟨by omega, by omega⟩)), ?_⟩
          have z46 := hq9.1 46 (by decide)
          have z46i := congrFun z46 i
          refine ⟨_, hN, w0, hw0, ?_, ?_⟩
          · rw [hwk]; unfold zMKm
            first | (exfalso; omega) | (rw [if_pos (by omega)]) | (rw [if_neg (by omega), if_pos (by omega)]) | (rw [if_neg (by omega), if_neg (by omega)])
          · rw [hwk]; unfold zMKw
            first | (rw [if_pos (by omega)]; omega) | (rw [if_neg (by omega), if_pos (by omega)]; omega) | (rw [if_neg (by omega), if_neg (by omega)]; omega) | (exfalso; omega)
    · intro h24
      refine ⟨_, am_X9_begins (hq9.2.2), ?_⟩
      intro u13
      intro kv13
      obtain rfl := (show zbm _ (21 : Int) = u13 from kv13)
      replace hq9 := hq9.bm (b := (21 : Int))
      refine ⟨_, am_X9_begins (hq9.2.2), ?_⟩
      intro u14
      intro kv14
      obtain rfl := (show zbm _ (20 : Int) = u14 from kv14)
      replace hq9 := hq9.bm (b := (20 : Int))
      refine ⟨by (omega), ?_⟩
      refine ⟨?_, ?_⟩
      · intro h25
        refine ⟨by ((have z46 := hq9.1 46 (by decide); have z46i := congrFun z46 i; exact ⟨by omega, by omega⟩)), ?_⟩
        refine ⟨?_, ?_⟩
        · intro h26
          refine ⟨by ((have z46 := hq9.1 46 (by decide); have z46i := congrFun z46 i; exact ⟨by omega, by omega⟩)), ?_⟩
          have z46 := hq9.1 46 (by decide)
          have z46i := congrFun z46 i
          refine ⟨_, hN, w0, hw0, ?_, ?_⟩
          · rw [hwk]; unfold zMKm
            first | (exfalso; omega) | (rw [if_pos (by omega)]) | (rw [if_neg (by omega), if_pos (by omega)]) | (rw [if_neg (by omega), if_neg (by omega)])
          · rw [hwk]; unfold zMKw
            first | (rw [if_pos (by omega)]; omega) | (rw [if_neg (by omega), if_pos (by omega)]; omega) | (rw [if_neg (by omega), if_neg (by omega)]; omega) | (exfalso; omega)
        · intro h27
          obtain ⟨g, m9, g1, g2, g3, g4, g5⟩ := hw0 (hkr.2.2.2 (by omega))
          have z58 := hq9.1 58 (by decide)
          have z59 := hq9.1 59 (by decide)
          have z46 := hq9.1 46 (by decide)
          have z46i := congrFun z46 i
          refine ⟨_, am_X9_firstInList (g := g) (m9 := m9) (by omega) (g1) (g2.2) (by rw [z58]; exact g3) (by rw [z59]; exact g4) (by rw [hq9.2.1 22 (by decide)]; exact hL2), ?_⟩
          intro v15 u15 hv15
          intro kv15
          obtain ⟨hv15a, hv15b⟩ := hv15
          obtain ⟨rfl, g6⟩ := kv15
          rw [hq9.fil] at g6
          have g7 := zfil_u g5 g6
          have g8 := zfil_r g6 hL2.2
          have g9 := hkr.2.2.1 (by omega)
          refine ⟨by ((have z46 := hq9.1 46 (by decide); have z46i := congrFun z46 i; exact ⟨by omega, by omega⟩)), ?_⟩
          have z46 := hq9.1 46 (by decide)
          have z46i := congrFun z46 i
          refine ⟨_, hN, w0, hw0, ?_, ?_⟩
          · rw [hwk]; unfold zMKm
            first | (exfalso; omega) | (rw [if_pos (by omega)]) | (rw [if_neg (by omega), if_pos (by omega)]) | (rw [if_neg (by omega), if_neg (by omega)])
          · rw [hwk]; unfold zMKw
            first | (rw [if_pos (by omega)]; omega) | (rw [if_neg (by omega), if_pos (by omega)]; omega) | (rw [if_neg (by omega), if_neg (by omega)]; omega) | (exfalso; omega)
      · intro h28
        refine ⟨by ((have z46 := hq9.1 46 (by decide); have z46i := congrFun z46 i; exact ⟨by omega, by omega⟩)), ?_⟩
        refine ⟨?_, ?_⟩
        · intro h29
          refine ⟨by ((have z46 := hq9.1 46 (by decide); have z46i := congrFun z46 i; exact ⟨by omega, by omega⟩)), ?_⟩
          have z46 := hq9.1 46 (by decide)
          have z46i := congrFun z46 i
          refine ⟨_, hN, w0, hw0, ?_, ?_⟩
          · rw [hwk]; unfold zMKm
            first | (exfalso; omega) | (rw [if_pos (by omega)]) | (rw [if_neg (by omega), if_pos (by omega)]) | (rw [if_neg (by omega), if_neg (by omega)])
          · rw [hwk]; unfold zMKw
            first | (rw [if_pos (by omega)]; omega) | (rw [if_neg (by omega), if_pos (by omega)]; omega) | (rw [if_neg (by omega), if_neg (by omega)]; omega) | (exfalso; omega)
        · intro h30
          obtain ⟨g, m9, g1, g2, g3, g4, g5⟩ := hw0 (hkr.2.2.2 (by omega))
          have z58 := hq9.1 58 (by decide)
          have z59 := hq9.1 59 (by decide)
          have z46 := hq9.1 46 (by decide)
          have z46i := congrFun z46 i
          refine ⟨_, am_X9_firstInList (g := g) (m9 := m9) (by omega) (g1) (g2.2) (by rw [z58]; exact g3) (by rw [z59]; exact g4) (by rw [hq9.2.1 22 (by decide)]; exact hL2), ?_⟩
          intro v16 u16 hv16
          intro kv16
          obtain ⟨hv16a, hv16b⟩ := hv16
          obtain ⟨rfl, g6⟩ := kv16
          rw [hq9.fil] at g6
          have g7 := zfil_u g5 g6
          have g8 := zfil_r g6 hL2.2
          have g9 := hkr.2.2.1 (by omega)
          refine ⟨by ((have z46 := hq9.1 46 (by decide); have z46i := congrFun z46 i; exact ⟨by omega, by omega⟩)), ?_⟩
          have z46 := hq9.1 46 (by decide)
          have z46i := congrFun z46 i
          refine ⟨_, hN, w0, hw0, ?_, ?_⟩
          · rw [hwk]; unfold zMKm
            first | (exfalso; omega) | (rw [if_pos (by omega)]) | (rw [if_neg (by omega), if_pos (by omega)]) | (rw [if_neg (by omega), if_neg (by omega)])
          · rw [hwk]; unfold zMKw
            first | (rw [if_pos (by omega)]; omega) | (rw [if_neg (by omega), if_pos (by omega)]; omega) | (rw [if_neg (by omega), if_neg (by omega)]; omega) | (exfalso; omega)
/-- the pushes of a size: 10 + k, .. 11, then 10 -/
def zSZp (σ : zS) (k : Int) : zS := if k = 3 then (zbm (zbm (zbm (zbm σ 13) 12) 11) 10) else if k = 2 then (zbm (zbm (zbm σ 12) 11) 10) else if k = 1 then (zbm (zbm σ 11) 10) else (zbm σ 10)
def zSZb (τ : zS) (i k : Int) : Int := if 1 < k then 2 * (τ 45 (i + 1) - τ 45 i + τ 57 (5 * i)) else if 0 < k then τ 45 (i + 1) - τ 45 i + τ 57 (5 * i) else τ 45 (i + 1) - τ 45 i
/-- pushed from k on down to j (j is next) -/
def zSZq (σ : zS) (k j : Int) : zS := if k = j then σ else if k = j + 1 then zbm σ (10 + k) else if k = j + 2 then zbm (zbm σ (10 + k)) (10 + (k - 1)) else zbm (zbm (zbm σ (10 + k)) (10 + (k - 1))) (10 + (k - 2))
theorem zSZq_s {σ : zS} {k j : Int} (h0 : 0 < j) (h1 : j ≤ k) (h2 : k ≤ 3) : zbm (zSZq σ k j) (10 + j) = zSZq σ k (j - 1) := by
  unfold zSZq
  rcases (show k = j ∨ k = j + 1 ∨ k = j + 2 by omega) with e | e | e
  · rw [if_pos e, if_neg (by omega), if_pos (by omega), e]
  · rw [if_neg (by omega), if_pos e, if_neg (by omega), if_neg (by omega), if_pos (by omega), show k - 1 = j by omega]
  · rw [if_neg (by omega), if_neg (by omega), if_pos e, if_neg (by omega), if_neg (by omega), if_neg (by omega), show k - 2 = j by omega]
theorem zSZq_0 {σ : zS} {k : Int} (h0 : 0 ≤ k) (h2 : k ≤ 3) : zbm (zSZq σ k 0) 10 = zSZp σ k := by
  unfold zSZq zSZp
  rcases (show k = 0 ∨ k = 1 ∨ k = 2 ∨ k = 3 by omega) with rfl | rfl | rfl | rfl <;> rfl
theorem zTQ.szq {σ u : zS} {k j : Int} (h : zTQ σ u) : zTQ σ (zSZq u k j) := by
  unfold zSZq
  split
  · exact h
  · split
    · exact h.bm
    · split
      · exact h.bm.bm
      · exact h.bm.bm.bm
set_option maxRecDepth 100000 in
set_option maxHeartbeats 4000000 in
theorem lp_size {i : Int} {k : Int} {w0 : Int} {τ : zS} {σ : zS} (hM : zMQ2 σ) (hi : 0 ≤ i ∧ i < σ 9 13) (h28 : 0 ≤ σ 9 28) (hd : 0 ≤ σ 46 i ∧ σ 46 i ≤ 40) (hN : zNW σ τ i) (hw0 : zFW τ i w0) (hwk : zmkM τ i w0 = k) : ∀ (n : Nat) (j : Int) (t : zS), j < (n : Int) → (0 ≤ j ∧ j ≤ k) → (t = zSZq τ k j) → zRuns 153 zX0 (fun (v : Int) (u : zS) => ∃ τ : zS, zNW σ τ i ∧ ∃ w : Int, zFW τ i w ∧ (if zmkM τ i w = 3 then zMKm (zSZp τ 3) 3 = u ∧ zSZb τ i 3 + zMKw τ i 3 w = v else zSZp τ (zmkM τ i w) = u ∧ zSZb τ i (zmkM τ i w) = v)) 8 [some (.inr (.inr (9, 0))), some (.inl i), some (.inl k), some (.inl j)] [] t := by
  intro n
  induction n with
  | zero =>
    intro j t hn j0 hs
    exfalso
    omega
  | succ n ih =>
    intro j t hn j0 hs
    refine zwalk zmk_153 [(8, [true, true, true, true])] 6 ?_
    show ((j ≤ 0 → (∃ Rc : Int → zS → Prop, zAM 151 [.inr (.inr (9, 0)), .inl (10 : Int)] t Rc ∧ ∀ (u1 : zS), Rc 0 u1 → (∃ Rc : Int → zS → Prop, zAM 117 [.inr (.inr (9, 0)), .inl i] u1 Rc ∧ ∀ (v2 : Int) (u2 : zS), zI v2 → Rc v2 u2 → ((k ≤ 0 → (zI (v2 + (0 : Int)) ∧ ((k ≤ (1 : Int) → ((¬ k = (3 : Int) → (∃ τ : zS, zNW σ τ i ∧ ∃ w : Int, zFW τ i w ∧ (if zmkM τ i w = 3 then zMKm (zSZp τ 3) 3 = u2 ∧ zSZb τ i 3 + zMKw τ i 3 w = (v2 + (0 : Int)) else zSZp τ (zmkM τ i w) = u2 ∧ zSZb τ i (zmkM τ i w) = (v2 + (0 : Int))))) ∧ (k = (3 : Int) → (∃ Rc : Int → zS → Prop, zAM 152 [.inr (.inr (9, 0)), .inl i] u2 Rc ∧ ∀ (v3 : Int) (u3 : zS), zI v3 → Rc v3 u3 → (zI ((v2 + (0 : Int)) + v3) ∧ (∃ τ : zS, zNW σ τ i ∧ ∃ w : Int, zFW τ i w ∧ (if zmkM τ i w = 3 then zMKm (zSZp τ 3) 3 = u3 ∧ zSZb τ i 3 + zMKw τ i 3 w = ((v2 + (0 : Int)) + v3) else zSZp τ (zmkM τ i w) = u3 ∧ zSZb τ i (zmkM τ i w) = ((v2 + (0 : Int)) + v3)))))))) ∧ ((1 : Int) < k → (zI ((2 : Int) * (v2 + (0 : Int))) ∧ ((¬ k = (3 : Int) → (∃ τ : zS, zNW σ τ i ∧ ∃ w : Int, zFW τ i w ∧ (if zmkM τ i w = 3 then zMKm (zSZp τ 3) 3 = u2 ∧ zSZb τ i 3 + zMKw τ i 3 w = ((2 : Int) * (v2 + (0 : Int))) else zSZp τ (zmkM τ i w) = u2 ∧ zSZb τ i (zmkM τ i w) = ((2 : Int) * (v2 + (0 : Int)))))) ∧ (k = (3 : Int) → (∃ Rc : Int → zS → Prop, zAM 152 [.inr (.inr (9, 0)), .inl i] u2 Rc ∧ ∀ (v4 : Int) (u4 : zS), zI v4 → Rc v4 u4 → (zI (((2 : Int) * (v2 + (0 : Int))) + v4) ∧ (∃ τ : zS, zNW σ τ i ∧ ∃ w : Int, zFW τ i w ∧ (if zmkM τ i w = 3 then zMKm (zSZp τ 3) 3 = u4 ∧ zSZb τ i 3 + zMKw τ i 3 w = (((2 : Int) * (v2 + (0 : Int))) + v4) else zSZp τ (zmkM τ i w) = u4 ∧ zSZb τ i (zmkM τ i w) = (((2 : Int) * (v2 + (0 : Int))) + v4)))))))))))) ∧ (0 < k → (zI ((5 : Int) * i) ∧ ((0 ≤ ((5 : Int) * i) ∧ ((5 : Int) * i) < (200 : Int)) ∧ (zI (v2 + (u2 57 ((5 : Int) * i))) ∧ ((k ≤ (1 : Int) → ((¬ k = (3 : Int) → (∃ τ : zS, zNW σ τ i ∧ ∃ w : Int, zFW τ i w ∧ (if zmkM τ i w = 3 then zMKm (zSZp τ 3) 3 = u2 ∧ zSZb τ i 3 + zMKw τ i 3 w = (v2 + (u2 57 ((5 : Int) * i))) else zSZp τ (zmkM τ i w) = u2 ∧ zSZb τ i (zmkM τ i w) = (v2 + (u2 57 ((5 : Int) * i)))))) ∧ (k = (3 : Int) → (∃ Rc : Int → zS → Prop, zAM 152 [.inr (.inr (9, 0)), .inl i] u2 Rc ∧ ∀ (v5 : Int) (u5 : zS), zI v5 → Rc v5 u5 → (zI ((v2 + (u2 57 ((5 : Int) * i))) + v5) ∧ (∃ τ : zS, zNW σ τ i ∧ ∃ w : Int, zFW τ i w ∧ (if zmkM τ i w = 3 then zMKm (zSZp τ 3) 3 = u5 ∧ zSZb τ i 3 + zMKw τ i 3 w = ((v2 + (u2 57 ((5 : Int) * i))) + v5) else zSZp τ (zmkM τ i w) = u5 ∧ zSZb τ i (zmkM τ i w) = ((v2 + (u2 57 ((5 : Int) * i))) + v5)))))))) ∧ ((1 : Int) < k → (zI ((2 : Int) * (v2 + (u2 57 ((5 : Int) * i)))) ∧ ((¬ k = (3 : Int) → (∃ τ : zS, zNW σ τ i ∧ ∃ w : Int, zFW τ i w ∧ (if zmkM τ i w = 3 then zMKm (zSZp τ 3) 3 = u2 ∧ zSZb τ i 3 + zMKw τ i 3 w = ((2 : Int) * (v2 + (u2 57 ((5 : Int) * i)))) else zSZp τ (zmkM τ i w) = u2 ∧ zSZb τ i (zmkM τ i w) = ((2 : Int) * (v2 + (u2 57 ((5 : Int) * i))))))) ∧ (k = (3 : Int) → (∃ Rc : Int → zS → Prop, zAM 152 [.inr (.inr (9, 0)), .inl i] u2 Rc ∧ ∀ (v6 : Int) (u6 : zS), zI v6 → Rc v6 u6 → (zI (((2 : Int) * (v2 + (u2 57 ((5 : Int) * i)))) + v6) ∧ (∃ τ : zS, zNW σ τ i ∧ ∃ w : Int, zFW τ i w ∧ (if zmkM τ i w = 3 then zMKm (zSZp τ 3) 3 = u6 ∧ zSZb τ i 3 + zMKw τ i 3 w = (((2 : Int) * (v2 + (u2 57 ((5 : Int) * i)))) + v6) else zSZp τ (zmkM τ i w) = u6 ∧ zSZb τ i (zmkM τ i w) = (((2 : Int) * (v2 + (u2 57 ((5 : Int) * i)))) + v6)))))))))))))))))) ∧ (0 < j → (zI ((10 : Int) + j) ∧ (∃ Rc : Int → zS → Prop, zAM 151 [.inr (.inr (9, 0)), .inl ((10 : Int) + j)] t Rc ∧ ∀ (u7 : zS), Rc 0 u7 → (zI (j + (-1 : Int)) ∧ zRuns 153 zX0 (fun (v : Int) (u : zS) => ∃ τ : zS, zNW σ τ i ∧ ∃ w : Int, zFW τ i w ∧ (if zmkM τ i w = 3 then zMKm (zSZp τ 3) 3 = u ∧ zSZb τ i 3 + zMKw τ i 3 w = v else zSZp τ (zmkM τ i w) = u ∧ zSZb τ i (zmkM τ i w) = v)) 8 [some (.inr (.inr (9, 0))), some (.inl i), some (.inl k), some (.inl (j + (-1 : Int)))] [] u7)))))
    have hkr := zmkM_r (u := τ) (i := i) (w := w0)
    have h13 := hM.1.1
    have hMτ := zNW_MQ hN hM
    have hcc := zKP_c hN.2.2.1 (zgb_m hM.1 hi)
    have hcc0 := hcc.2 0 (by decide)
    rw [Int.add_zero] at hcc0
    have e45 : τ 45 = σ 45 := hN.1 45 (by decide)
    have e46 : τ 46 = σ 46 := hN.1 46 (by decide)
    have e9 : τ 9 = σ 9 := hN.1 9 (by decide)
    have hq9 : zTQ τ τ := zTQ.rf (by rw [e9]; exact h28)
    replace hq9 : zTQ τ t := by rw [hs]; exact hq9.szq
    have h5 := hM.1.2.1
    have h2' := hM.1.2.2.1 i hi.1 hi.2
    have e45i : τ 45 i = σ 45 i ∧ τ 45 (i + 1) = σ 45 (i + 1) := by rw [e45]; exact ⟨rfl, rfl⟩
    have w57i : t 57 (5 * i) = τ 57 (5 * i) := by rw [hq9.1 57 (by decide)]
    refine ⟨?_, ?_⟩
    · intro h1
      refine ⟨_, am_X9_begins (hq9.2.2), ?_⟩
      intro u1
      intro kv1
      obtain rfl := (show zbm _ (10 : Int) = u1 from kv1)
      replace hq9 := hq9.bm (b := (10 : Int))
      have w57b := congrFun (hq9.1 57 (by decide)) (5 * i)
      have w45 := hq9.1 45 (by decide)
      refine ⟨_, am_X9_many (by omega) (by rw [w45]; omega) (by rw [w45]; omega), ?_⟩
      intro v2 u2 hv2
      intro kv2
      obtain ⟨hv2a, hv2b⟩ := hv2
      obtain ⟨rfl, w4⟩ := kv2
      rw [w45] at w4
      refine ⟨?_, ?_⟩
      · intro h2
        refine ⟨by (first | exact ⟨by omega, by omega⟩ | (have hcc2 := hcc0 (by omega); exact ⟨by omega, by omega⟩)), ?_⟩
        refine ⟨?_, ?_⟩
        · intro h3
          refine ⟨?_, ?_⟩
          · intro h4
            first
              | (exfalso; omega)
              | (refine ⟨τ, hN, w0, hw0, ?_⟩
                 rw [hwk]
                 obtain rfl : j = 0 := by omega
                 have es := zSZq_0 (σ := τ) (k := k) (by omega) (by omega)
                 rw [← hs] at es
                 rw [if_neg (by omega)]
                 refine ⟨es.symm, ?_⟩
                 unfold zSZb
                 first | (rw [if_pos (by omega)]; omega) | (rw [if_neg (by omega), if_pos (by omega)]; omega) | (rw [if_neg (by omega), if_neg (by omega)]; omega))
          · intro h5
            refine ⟨_, am_X9_mark (hq9.MQ hMτ) (by rw [hq9.2.1 13 (by decide), e9]; exact hi) (hq9.2.2) (by rw [hq9.1 46 (by decide), e46]; exact hd), ?_⟩
            intro v3 u3 hv3
            intro kv3
            obtain ⟨hv3a, hv3b⟩ := hv3
            obtain ⟨τ2, n1, w5, w6, w7, w8⟩ := kv3
            have n2 := n1.2.2.2.2 (by rw [hq9.1 55 (by decide)]; exact hN.2.2.2.1)
            subst n2
            rw [hq9.mk] at w7 w8
            rw [hq9.FW] at w6
            have w9 : w5 = w0 := by
              have q1 := hkr.2.2.2 (by omega)
              exact zFW_u w6 hw0 q1
            subst w9
            have w10 : -1000000 ≤ w5 ∧ w5 ≤ 30 := by
              obtain ⟨gb, mb, b1, b2, b3, b4, b5⟩ := hw0 (hkr.2.2.2 (by omega))
              have := zfil_r b5 hMτ.2.2.2
              omega
            have w11 : zMKw τ i (zmkM τ i w5) w5 = v3 := by rw [← w8]; unfold zMKw; rw [hq9.1 46 (by decide)]
            have w12 : -1000000 ≤ zMKw τ i (zmkM τ i w5) w5 ∧ zMKw τ i (zmkM τ i w5) w5 ≤ 400 := by
              have e46i := congrFun e46 i
              unfold zMKw
              split
              · omega
              · split <;> omega
            replace w8 := w11
            refine ⟨by (first | exact ⟨by omega, by omega⟩ | (have hcc2 := hcc0 (by omega); exact ⟨by omega, by omega⟩)), ?_⟩
            first
              | (exfalso; omega)
              | (refine ⟨τ, hN, w5, hw0, ?_⟩
                 rw [hwk]
                 obtain rfl : j = 0 := by omega
                 have es := zSZq_0 (σ := τ) (k := k) (by omega) (by omega)
                 rw [← hs] at es
                 rw [if_pos (by omega)]
                 rw [es] at w7
                 rw [hwk, show k = 3 by omega] at w7 w8
                 refine ⟨w7, ?_⟩
                 unfold zSZb
                 rw [if_pos (by decide)]
                 omega)
        · intro h6
          refine ⟨by (first | exact ⟨by omega, by omega⟩ | (have hcc2 := hcc0 (by omega); exact ⟨by omega, by omega⟩)), ?_⟩
          refine ⟨?_, ?_⟩
          · intro h7
            first
              | (exfalso; omega)
              | (refine ⟨τ, hN, w0, hw0, ?_⟩
                 rw [hwk]
                 obtain rfl : j = 0 := by omega
                 have es := zSZq_0 (σ := τ) (k := k) (by omega) (by omega)
                 rw [← hs] at es
                 rw [if_neg (by omega)]
                 refine ⟨es.symm, ?_⟩
                 unfold zSZb
                 first | (rw [if_pos (by omega)]; omega) | (rw [if_neg (by omega), if_pos (by omega)]; omega) | (rw [if_neg (by omega), if_neg (by omega)]; omega))
          · intro h8
            refine ⟨_, am_X9_mark (hq9.MQ hMτ) (by rw [hq9.2.1 13 (by decide), e9]; exact hi) (hq9.2.2) (by rw [hq9.1 46 (by decide), e46]; exact hd), ?_⟩
            intro v4 u4 hv4
            intro kv4
            obtain ⟨hv4a, hv4b⟩ := hv4
            obtain ⟨τ2, n1, w5, w6, w7, w8⟩ := kv4
            have n2 := n1.2.2.2.2 (by rw [hq9.1 55 (by decide)]; exact hN.2.2.2.1)
            subst n2
            rw [hq9.mk] at w7 w8
            rw [hq9.FW] at w6
            have w9 : w5 = w0 := by
              have q1 := hkr.2.2.2 (by omega)
              exact zFW_u w6 hw0 q1
            subst w9
            have w10 : -1000000 ≤ w5 ∧ w5 ≤ 30 := by
              obtain ⟨gb, mb, b1, b2, b3, b4, b5⟩ := hw0 (hkr.2.2.2 (by omega))
              have := zfil_r b5 hMτ.2.2.2
              omega
            have w11 : zMKw τ i (zmkM τ i w5) w5 = v4 := by rw [← w8]; unfold zMKw; rw [hq9.1 46 (by decide)]
            have w12 : -1000000 ≤ zMKw τ i (zmkM τ i w5) w5 ∧ zMKw τ i (zmkM τ i w5) w5 ≤ 400 := by
              have e46i := congrFun e46 i
              unfold zMKw
              split
              · omega
              · split <;> omega
            replace w8 := w11
            refine ⟨by (first | exact ⟨by omega, by omega⟩ | (have hcc2 := hcc0 (by omega); exact ⟨by omega, by omega⟩)), ?_⟩
            first
              | (exfalso; omega)
              | (refine ⟨τ, hN, w5, hw0, ?_⟩
                 rw [hwk]
                 obtain rfl : j = 0 := by omega
                 have es := zSZq_0 (σ := τ) (k := k) (by omega) (by omega)
                 rw [← hs] at es
                 rw [if_pos (by omega)]
                 rw [es] at w7
                 rw [hwk, show k = 3 by omega] at w7 w8
                 refine ⟨w7, ?_⟩
                 unfold zSZb
                 rw [if_pos (by decide)]
                 omega)
      · intro h9
        refine ⟨by (first | exact ⟨by omega, by omega⟩ | (have hcc2 := hcc0 (by omega); exact ⟨by omega, by omega⟩)), ?_⟩
        refine ⟨by (omega), ?_⟩
        refine ⟨by (first | exact ⟨by omega, by omega⟩ | (have hcc2 := hcc0 (by omega); exact ⟨by omega, by omega⟩)), ?_⟩
        refine ⟨?_, ?_⟩
        · intro h10
          refine ⟨?_, ?_⟩
          · intro h11
            first
              | (exfalso; omega)
              | (refine ⟨τ, hN, w0, hw0, ?_⟩
                 rw [hwk]
                 obtain rfl : j = 0 := by omega
                 have es := zSZq_0 (σ := τ) (k := k) (by omega) (by omega)
                 rw [← hs] at es
                 rw [if_neg (by omega)]
                 refine ⟨es.symm, ?_⟩
                 unfold zSZb
                 first | (rw [if_pos (by omega)]; omega) | (rw [if_neg (by omega), if_pos (by omega)]; omega) | (rw [if_neg (by omega), if_neg (by omega)]; omega))
          · intro h12
            refine ⟨_, am_X9_mark (hq9.MQ hMτ) (by rw [hq9.2.1 13 (by decide), e9]; exact hi) (hq9.2.2) (by rw [hq9.1 46 (by decide), e46]; exact hd), ?_⟩
            intro v5 u5 hv5
            intro kv5
            obtain ⟨hv5a, hv5b⟩ := hv5
            obtain ⟨τ2, n1, w5, w6, w7, w8⟩ := kv5
            have n2 := n1.2.2.2.2 (by rw [hq9.1 55 (by decide)]; exact hN.2.2.2.1)
            subst n2
            rw [hq9.mk] at w7 w8
            rw [hq9.FW] at w6
            have w9 : w5 = w0 := by
              have q1 := hkr.2.2.2 (by omega)
              exact zFW_u w6 hw0 q1
            subst w9
            have w10 : -1000000 ≤ w5 ∧ w5 ≤ 30 := by
              obtain ⟨gb, mb, b1, b2, b3, b4, b5⟩ := hw0 (hkr.2.2.2 (by omega))
              have := zfil_r b5 hMτ.2.2.2
              omega
            have w11 : zMKw τ i (zmkM τ i w5) w5 = v5 := by rw [← w8]; unfold zMKw; rw [hq9.1 46 (by decide)]
            have w12 : -1000000 ≤ zMKw τ i (zmkM τ i w5) w5 ∧ zMKw τ i (zmkM τ i w5) w5 ≤ 400 := by
              have e46i := congrFun e46 i
              unfold zMKw
              split
              · omega
              · split <;> omega
            replace w8 := w11
            refine ⟨by (first | exact ⟨by omega, by omega⟩ | (have hcc2 := hcc0 (by omega); exact ⟨by omega, by omega⟩)), ?_⟩
            first
              | (exfalso; omega)
              | (refine ⟨τ, hN, w5, hw0, ?_⟩
                 rw [hwk]
                 obtain rfl : j = 0 := by omega
                 have es := zSZq_0 (σ := τ) (k := k) (by omega) (by omega)
                 rw [← hs] at es
                 rw [if_pos (by omega)]
                 rw [es] at w7
                 rw [hwk, show k = 3 by omega] at w7 w8
                 refine ⟨w7, ?_⟩
                 unfold zSZb
                 rw [if_pos (by decide)]
                 omega)
        · intro h13
          refine ⟨by (first | exact ⟨by omega, by omega⟩ | (have hcc2 := hcc0 (by omega); exact ⟨by omega, by omega⟩)), ?_⟩
          refine ⟨?_, ?_⟩
          · intro h14
            first
              | (exfalso; omega)
              | (refine ⟨τ, hN, w0, hw0, ?_⟩
                 rw [hwk]
                 obtain rfl : j = 0 := by omega
                 have es := zSZq_0 (σ := τ) (k := k) (by omega) (by omega)
                 rw [← hs] at es
                 rw [if_neg (by omega)]
                 refine ⟨es.symm, ?_⟩
                 unfold zSZb
                 first | (rw [if_pos (by omega)]; omega) | (rw [if_neg (by omega), if_pos (by omega)]; omega) | (rw [if_neg (by omega), if_neg (by omega)]; omega))
          · intro h15
            refine ⟨_, am_X9_mark (hq9.MQ hMτ) (by rw [hq9.2.1 13 (by decide), e9]; exact hi) (hq9.2.2) (by rw [hq9.1 46 (by decide), e46]; exact hd), ?_⟩
            intro v6 u6 hv6
            intro kv6
            obtain ⟨hv6a, hv6b⟩ := hv6
            obtain ⟨τ2, n1, w5, w6, w7, w8⟩ := kv6
            have n2 := n1.2.2.2.2 (by rw [hq9.1 55 (by decide)]; exact hN.2.2.2.1)
            subst n2
            rw [hq9.mk] at w7 w8
            rw [hq9.FW] at w6
            have w9 : w5 = w0 := by
              have q1 := hkr.2.2.2 (by omega)
              exact zFW_u w6 hw0 q1
            subst w9
            have w10 : -1000000 ≤ w5 ∧ w5 ≤ 30 := by
              obtain ⟨gb, mb, b1, b2, b3, b4, b5⟩ := hw0 (hkr.2.2.2 (by omega))
              have := zfil_r b5 hMτ.2.2.2
              omega
            have w11 : zMKw τ i (zmkM τ i w5) w5 = v6 := by rw [← w8]; unfold zMKw; rw [hq9.1 46 (by decide)]
            have w12 : -1000000 ≤ zMKw τ i (zmkM τ i w5) w5 ∧ zMKw τ i (zmkM τ i w5) w5 ≤ 400 := by
              have e46i := congrFun e46 i
              unfold zMKw
              split
              · omega
              · split <;> omega
            replace w8 := w11
            refine ⟨by (first | exact ⟨by omega, by omega⟩ | (have hcc2 := hcc0 (by omega); exact ⟨by omega, by omega⟩)), ?_⟩
            first
              | (exfalso; omega)
              | (refine ⟨τ, hN, w5, hw0, ?_⟩
                 rw [hwk]
                 obtain rfl : j = 0 := by omega
                 have es := zSZq_0 (σ := τ) (k := k) (by omega) (by omega)
                 rw [← hs] at es
                 rw [if_pos (by omega)]
                 rw [es] at w7
                 rw [hwk, show k = 3 by omega] at w7 w8
                 refine ⟨w7, ?_⟩
                 unfold zSZb
                 rw [if_pos (by decide)]
                 omega)
    · intro h16
      refine ⟨by (first | exact ⟨by omega, by omega⟩ | (have hcc2 := hcc0 (by omega); exact ⟨by omega, by omega⟩)), ?_⟩
      refine ⟨_, am_X9_begins (hq9.2.2), ?_⟩
      intro u7
      intro kv7
      obtain rfl := (show zbm _ ((10 : Int) + j) = u7 from kv7)
      replace hq9 := hq9.bm (b := ((10 : Int) + j))
      have w57b := congrFun (hq9.1 57 (by decide)) (5 * i)
      refine ⟨by (first | exact ⟨by omega, by omega⟩ | (have hcc2 := hcc0 (by omega); exact ⟨by omega, by omega⟩)), ?_⟩
      exact ih (j + -1) _ (by omega) ⟨by omega, by omega⟩ (by rw [hs, zSZq_s (by omega) j0.2 (by omega)]; rfl)
set_option maxRecDepth 100000 in
set_option maxHeartbeats 4000000 in
theorem am_X9_sizeOf {σ : zS} {i : Int} (hM : zMQ2 σ) (hi : 0 ≤ i ∧ i < σ 9 13) (h28 : 0 ≤ σ 9 28) (hd : 0 ≤ σ 46 i ∧ σ 46 i ≤ 40) : zAM 153 [.inr (.inr (9, 0)), .inl i] σ (fun (v : Int) (u : zS) => ∃ τ : zS, zNW σ τ i ∧ ∃ w : Int, zFW τ i w ∧ (if zmkM τ i w = 3 then zMKm (zSZp τ 3) 3 = u ∧ zSZb τ i 3 + zMKw τ i 3 w = v else zSZp τ (zmkM τ i w) = u ∧ zSZb τ i (zmkM τ i w) = v)) := by
  refine zam (by decide) (Nat.le_of_ble_eq_true rfl) ?_
  refine zwalk zmk_153 [(8, [true, true, true, true])] 2 ?_
  show (∃ Rc : Int → zS → Prop, zAM 147 [.inr (.inr (9, 0)), .inl i] σ Rc ∧ ∀ (v1 : Int) (u1 : zS), zI v1 → Rc v1 u1 → zRuns 153 zX0 (fun (v : Int) (u : zS) => ∃ τ : zS, zNW σ τ i ∧ ∃ w : Int, zFW τ i w ∧ (if zmkM τ i w = 3 then zMKm (zSZp τ 3) 3 = u ∧ zSZb τ i 3 + zMKw τ i 3 w = v else zSZp τ (zmkM τ i w) = u ∧ zSZb τ i (zmkM τ i w) = v)) 8 [some (.inr (.inr (9, 0))), some (.inl i), some (.inl v1), some (.inl v1)] [] u1)
  refine ⟨_, am_X9_kindOf (hM) (hi), ?_⟩
  intro v1 u1 hv1
  intro kv1
  obtain ⟨hv1a, hv1b⟩ := hv1
  obtain ⟨hN, w0, hw0, hwk⟩ := kv1
  have hkr := zmkM_r (u := u1) (i := i) (w := w0)
  exact lp_size hM hi h28 hd hN hw0 hwk 5 v1 u1 (by omega) ⟨by omega, by omega⟩ (by unfold zSZq; rw [if_pos rfl])
set_option maxRecDepth 100000 in
set_option maxHeartbeats 4000000 in
theorem am_X9_ask {σ : zS} {i : Int} {k : Int} (hM : zMQ2 σ) (hd : ∀ i : Int, 0 ≤ i → i < σ 9 13 → 0 ≤ σ 46 i ∧ σ 46 i ≤ 40) : zAM 154 [.inr (.inr (9, 0)), .inl i, .inl k] σ (fun (v : Int) (u : zS) => ((¬ (0 ≤ i ∧ i < σ 9 13) ∨ ¬ (0 ≤ k ∧ k ≤ 1)) ∧ σ = u ∧ -1000001 = v) ∨ (((0 ≤ i ∧ i < σ 9 13) ∧ 0 ≤ k ∧ k ≤ 1) ∧ ∃ τ : zS, zNW (zup σ 9 28 0) τ i ∧ ∃ w : Int, zFW τ i w ∧ ((k = 0 ∧ (if zmkM τ i w = 3 then zMKm (zSZp τ 3) 3 = u ∧ zSZb τ i 3 + zMKw τ i 3 w = v else zSZp τ (zmkM τ i w) = u ∧ zSZb τ i (zmkM τ i w) = v)) ∨ (k = 1 ∧ zMKm τ (zmkM τ i w) = u ∧ zMKw τ i (zmkM τ i w) w = v)))) := by
  refine zam (by decide) (Nat.le_of_ble_eq_true rfl) ?_
  refine zwalk zmk_154 [] 4 ?_
  show (∃ Rc : Int → zS → Prop, zAM 116 [.inr (.inr (9, 0)), .inl i] σ Rc ∧ ∀ (v1 : Int) (u1 : zS), zI v1 → Rc v1 u1 → ((v1 = 0 → (((¬ (0 ≤ i ∧ i < σ 9 13) ∨ ¬ (0 ≤ k ∧ k ≤ 1)) ∧ σ = u1 ∧ -1000001 = (-1000001 : Int)) ∨ (((0 ≤ i ∧ i < σ 9 13) ∧ 0 ≤ k ∧ k ≤ 1) ∧ ∃ τ : zS, zNW (zup σ 9 28 0) τ i ∧ ∃ w : Int, zFW τ i w ∧ ((k = 0 ∧ (if zmkM τ i w = 3 then zMKm (zSZp τ 3) 3 = u1 ∧ zSZb τ i 3 + zMKw τ i 3 w = (-1000001 : Int) else zSZp τ (zmkM τ i w) = u1 ∧ zSZb τ i (zmkM τ i w) = (-1000001 : Int))) ∨ (k = 1 ∧ zMKm τ (zmkM τ i w) = u1 ∧ zMKw τ i (zmkM τ i w) w = (-1000001 : Int)))))) ∧ (¬ v1 = 0 → (∃ Rc : Int → zS → Prop, zAM 103 [.inr (.inl k), .inr (.inl (0 : Int)), .inr (.inl (1 : Int))] u1 Rc ∧ ∀ (v2 : Int) (u2 : zS), zI v2 → Rc v2 u2 → ((¬ v2 = 0 → ((¬ k = 0 → (∃ Rc : Int → zS → Prop, zAM 152 [.inr (.inr (9, 0)), .inl i] (zup u2 9 (28 : Int) (0 : Int)) Rc ∧ ∀ (v3 : Int) (u3 : zS), zI v3 → Rc v3 u3 → (((¬ (0 ≤ i ∧ i < σ 9 13) ∨ ¬ (0 ≤ k ∧ k ≤ 1)) ∧ σ = u3 ∧ -1000001 = v3) ∨ (((0 ≤ i ∧ i < σ 9 13) ∧ 0 ≤ k ∧ k ≤ 1) ∧ ∃ τ : zS, zNW (zup σ 9 28 0) τ i ∧ ∃ w : Int, zFW τ i w ∧ ((k = 0 ∧ (if zmkM τ i w = 3 then zMKm (zSZp τ 3) 3 = u3 ∧ zSZb τ i 3 + zMKw τ i 3 w = v3 else zSZp τ (zmkM τ i w) = u3 ∧ zSZb τ i (zmkM τ i w) = v3)) ∨ (k = 1 ∧ zMKm τ (zmkM τ i w) = u3 ∧ zMKw τ i (zmkM τ i w) w = v3)))))) ∧ (k = 0 → (∃ Rc : Int → zS → Prop, zAM 153 [.inr (.inr (9, 0)), .inl i] (zup u2 9 (28 : Int) (0 : Int)) Rc ∧ ∀ (v4 : Int) (u4 : zS), zI v4 → Rc v4 u4 → (((¬ (0 ≤ i ∧ i < σ 9 13) ∨ ¬ (0 ≤ k ∧ k ≤ 1)) ∧ σ = u4 ∧ -1000001 = v4) ∨ (((0 ≤ i ∧ i < σ 9 13) ∧ 0 ≤ k ∧ k ≤ 1) ∧ ∃ τ : zS, zNW (zup σ 9 28 0) τ i ∧ ∃ w : Int, zFW τ i w ∧ ((k = 0 ∧ (if zmkM τ i w = 3 then zMKm (zSZp τ 3) 3 = u4 ∧ zSZb τ i 3 + zMKw τ i 3 w = v4 else zSZp τ (zmkM τ i w) = u4 ∧ zSZb τ i (zmkM τ i w) = v4)) ∨ (k = 1 ∧ zMKm τ (zmkM τ i w) = u4 ∧ zMKw τ i (zmkM τ i w) w = v4)))))))) ∧ (v2 = 0 → (((¬ (0 ≤ i ∧ i < σ 9 13) ∨ ¬ (0 ≤ k ∧ k ≤ 1)) ∧ σ = u2 ∧ -1000001 = (-1000001 : Int)) ∨ (((0 ≤ i ∧ i < σ 9 13) ∧ 0 ≤ k ∧ k ≤ 1) ∧ ∃ τ : zS, zNW (zup σ 9 28 0) τ i ∧ ∃ w : Int, zFW τ i w ∧ ((k = 0 ∧ (if zmkM τ i w = 3 then zMKm (zSZp τ 3) 3 = u2 ∧ zSZb τ i 3 + zMKw τ i 3 w = (-1000001 : Int) else zSZp τ (zmkM τ i w) = u2 ∧ zSZb τ i (zmkM τ i w) = (-1000001 : Int))) ∨ (k = 1 ∧ zMKm τ (zmkM τ i w) = u2 ∧ zMKw τ i (zmkM τ i w) w = (-1000001 : Int)))))))))))
  have hM8 : zMQ2 (zup σ 9 28 0) := by
    refine ⟨zMO_fr hM.1 ⟨?_, ?_⟩ (zup_ne (by decide)) (zup_ne (by decide)) (zup_ne (by decide)), zMI_fr hM.2.1 (fun k hk => zup_ne (fun z => ?_)) ?_, ?_⟩
    · rw [zup_at, if_neg (by decide)]
    · rw [zup_at, if_neg (by decide)]
    · rw [z] at hk; exact absurd hk (by decide)
    · rw [zup_at, if_neg (by decide)]
    · unfold zML
      rw [zup_at, if_neg (by decide)]
      exact hM.2.2
  have h280 : 0 ≤ (zup σ 9 28 0) 9 28 := by rw [zup_at, if_pos rfl]; exact Int.le_refl 0
  have h13' : (zup σ 9 28 0) 9 13 = σ 9 13 := by rw [zup_at, if_neg (by decide)]
  refine ⟨_, am_X9_isInk (hM.1.1), ?_⟩
  intro v1 u1 hv1
  rintro ⟨rfl, (⟨rfl, cv1⟩ | ⟨rfl, cv1⟩)⟩
  · refine ⟨?_, ?_⟩
    · exact fun h => absurd h (by decide)
    · intro _
      refine ⟨_, am_X9_in, ?_⟩
      intro v2 u2 hv2
      rintro ⟨rfl, (⟨rfl, cv2⟩ | ⟨rfl, cv2⟩)⟩
      · refine ⟨?_, ?_⟩
        · intro _
          refine ⟨?_, ?_⟩
          · intro h3
            refine ⟨_, am_X9_mark (hM8) (by rw [h13']; exact cv1) (h280) (hd i cv1.1 cv1.2), ?_⟩
            intro v3 u3 hv3
            intro kv3
            obtain ⟨hv3a, hv3b⟩ := hv3
            obtain ⟨τ, q1, w0, q2, q3, q4⟩ := kv3
            first | exact Or.inl ⟨by omega, rfl, rfl⟩ | exact Or.inr ⟨⟨cv1, by omega, by omega⟩, τ, q1, w0, q2, Or.inl ⟨by omega, q3⟩⟩ | exact Or.inr ⟨⟨cv1, by omega, by omega⟩, τ, q1, w0, q2, Or.inr ⟨by omega, q3, q4⟩⟩
          · intro h4
            refine ⟨_, am_X9_sizeOf (hM8) (by rw [h13']; exact cv1) (h280) (hd i cv1.1 cv1.2), ?_⟩
            intro v4 u4 hv4
            intro kv4
            obtain ⟨hv4a, hv4b⟩ := hv4
            obtain ⟨τ, q1, w0, q2, q3⟩ := kv4
            first | exact Or.inl ⟨by omega, rfl, rfl⟩ | exact Or.inr ⟨⟨cv1, by omega, by omega⟩, τ, q1, w0, q2, Or.inl ⟨by omega, q3⟩⟩ | exact Or.inr ⟨⟨cv1, by omega, by omega⟩, τ, q1, w0, q2, Or.inr ⟨by omega, q3, q4⟩⟩
        · exact fun h => absurd h (by decide)
      · refine ⟨?_, ?_⟩
        · exact fun h => absurd h (by decide)
        · intro _
          first | exact Or.inl ⟨by omega, rfl, rfl⟩ | exact Or.inr ⟨⟨cv1, by omega, by omega⟩, τ, q1, w0, q2, Or.inl ⟨by omega, q3⟩⟩ | exact Or.inr ⟨⟨cv1, by omega, by omega⟩, τ, q1, w0, q2, Or.inr ⟨by omega, q3, q4⟩⟩
  · refine ⟨?_, ?_⟩
    · intro _
      first | exact Or.inl ⟨by omega, rfl, rfl⟩ | exact Or.inr ⟨⟨cv1, by omega, by omega⟩, τ, q1, w0, q2, Or.inl ⟨by omega, q3⟩⟩ | exact Or.inr ⟨⟨cv1, by omega, by omega⟩, τ, q1, w0, q2, Or.inr ⟨by omega, q3, q4⟩⟩
    · exact fun h => absurd h (by decide)
