set_option maxRecDepth 100000 in
set_option maxHeartbeats 4000000 in
theorem am_X9_teach {σ : zS} {i : Int} {w : Nat → Int} {m : Nat} (hM : zMQ2 σ) (hw : zlet w m) (hm : m ≤ 12) (h25 : σ 9 25 = (m : Int)) (h53 : ∀ j : Int, 0 ≤ j → j < m → σ 53 j = w j.toNat) (h20 : 0 ≤ σ 9 20 ∧ σ 9 20 ≤ 50) (hu : 0 ≤ σ 9 17 ∧ σ 9 17 + 2 * (m : Int) ≤ 12000) : zAM 144 [.inr (.inr (9, 0)), .inl i] σ (fun (v : Int) (u : zS) => ((¬ (0 ≤ i ∧ i < σ 9 13)) ∧ σ = u ∧ -1000001 = v) ∨ ((0 ≤ i ∧ i < σ 9 13) ∧ ((m = 0 ∧ σ = u ∧ -1000002 = v) ∨ (¬ m = 0 ∧ ¬ zsp (zmft σ i) w m (zmq σ i) 1000000000 m 0 < 1000000000 ∧ zfr [60] σ u ∧ -1000002 = v) ∨ (¬ m = 0 ∧ zsp (zmft σ i) w m (zmq σ i) 1000000000 m 0 < 1000000000 ∧ σ 9 20 = 50 ∧ zfr [60] σ u ∧ -1000003 = v) ∨ (¬ m = 0 ∧ zsp (zmft σ i) w m (zmq σ i) 1000000000 m 0 < 1000000000 ∧ ¬ σ 9 20 = 50 ∧ ∃ κ t : zS, zfr [9, 50, 60, 64] σ κ ∧ (∀ j : Int, ¬ j = 17 → ¬ j = 20 → κ 9 j = σ 9 j) ∧ κ 9 20 = σ 9 20 + 1 ∧ κ 9 17 = (if σ 9 20 = 0 then 0 else σ 9 17) ∧ (∀ j : Int, κ 50 j = if j = σ 9 20 then κ 9 17 else σ 50 j) ∧ zLG 47 48 49 9 17 49660 κ t (2 * (m : Int)) ∧ (∀ x : Int, 0 ≤ x → x < 49660 → t 47 x = min 999 (σ 47 x + zoN (fun j : Nat => zsq σ (w j) (σ 45 i + zat (zmft σ i) w m (zmq σ i) 1000000000 j) (zrwk (zmft σ i) w m (zmq σ i) 1000000000 j)) x m + zoQ (fun j : Nat => 48984 + 26 * w (j - 1) + w j) x m)) ∧ zup (zfill t 55 0 40 0) 9 25 0 = u ∧ (m : Int) = v)))) := by
  refine zam (by decide) (Nat.le_of_ble_eq_true rfl) ?_
  refine zwalk zmk_144 [(109, [true, true, true, true, false, false])] 7 ?_
  show (∃ Rc : Int → zS → Prop, zAM 116 [.inr (.inr (9, 0)), .inl i] σ Rc ∧ ∀ (v1 : Int) (u1 : zS), zI v1 → Rc v1 u1 → ((¬ v1 = 0 → (((u1 9 (25 : Int)) = 0 → (((¬ (0 ≤ i ∧ i < σ 9 13)) ∧ σ = u1 ∧ -1000001 = (-1000002 : Int)) ∨ ((0 ≤ i ∧ i < σ 9 13) ∧ ((m = 0 ∧ σ = u1 ∧ -1000002 = (-1000002 : Int)) ∨ (¬ m = 0 ∧ ¬ zsp (zmft σ i) w m (zmq σ i) 1000000000 m 0 < 1000000000 ∧ zfr [60] σ u1 ∧ -1000002 = (-1000002 : Int)) ∨ (¬ m = 0 ∧ zsp (zmft σ i) w m (zmq σ i) 1000000000 m 0 < 1000000000 ∧ σ 9 20 = 50 ∧ zfr [60] σ u1 ∧ -1000003 = (-1000002 : Int)) ∨ (¬ m = 0 ∧ zsp (zmft σ i) w m (zmq σ i) 1000000000 m 0 < 1000000000 ∧ ¬ σ 9 20 = 50 ∧ ∃ κ t : zS, zfr [9, 50, 60, 64] σ κ ∧ (∀ j : Int, ¬ j = 17 → ¬ j = 20 → κ 9 j = σ 9 j) ∧ κ 9 20 = σ 9 20 + 1 ∧ κ 9 17 = (if σ 9 20 = 0 then 0 else σ 9 17) ∧ (∀ j : Int, κ 50 j = if j = σ 9 20 then κ 9 17 else σ 50 j) ∧ zLG 47 48 49 9 17 49660 κ t (2 * (m : Int)) ∧ (∀ x : Int, 0 ≤ x → x < 49660 → t 47 x = min 999 (σ 47 x + zoN (fun j : Nat => zsq σ (w j) (σ 45 i + zat (zmft σ i) w m (zmq σ i) 1000000000 j) (zrwk (zmft σ i) w m (zmq σ i) 1000000000 j)) x m + zoQ (fun j : Nat => 48984 + 26 * w (j - 1) + w j) x m)) ∧ zup (zfill t 55 0 40 0) 9 25 0 = u1 ∧ (m : Int) = (-1000002 : Int)))))) ∧ (¬ (u1 9 (25 : Int)) = 0 → (∃ Rc : Int → zS → Prop, zAM 133 [.inr (.inr (9, 0)), .inl i, .inr (.inr (53, 0)), .inl (0 : Int), .inl (u1 9 (25 : Int))] u1 Rc ∧ ∀ (v2 : Int) (u2 : zS), zI v2 → Rc v2 u2 → ((v2 < (1000000000 : Int) → ((¬ (u2 9 (20 : Int)) = (50 : Int) → ((¬ (u2 9 (20 : Int)) = 0 → ((0 ≤ (u2 9 (20 : Int)) ∧ (u2 9 (20 : Int)) < (50 : Int)) ∧ ((¬ (u2 9 (20 : Int)) = 0 → (zI ((u2 9 (20 : Int)) + (1 : Int)) ∧ zRuns 144 zX0 (fun (v : Int) (u : zS) => ((¬ (0 ≤ i ∧ i < σ 9 13)) ∧ σ = u ∧ -1000001 = v) ∨ ((0 ≤ i ∧ i < σ 9 13) ∧ ((m = 0 ∧ σ = u ∧ -1000002 = v) ∨ (¬ m = 0 ∧ ¬ zsp (zmft σ i) w m (zmq σ i) 1000000000 m 0 < 1000000000 ∧ zfr [60] σ u ∧ -1000002 = v) ∨ (¬ m = 0 ∧ zsp (zmft σ i) w m (zmq σ i) 1000000000 m 0 < 1000000000 ∧ σ 9 20 = 50 ∧ zfr [60] σ u ∧ -1000003 = v) ∨ (¬ m = 0 ∧ zsp (zmft σ i) w m (zmq σ i) 1000000000 m 0 < 1000000000 ∧ ¬ σ 9 20 = 50 ∧ ∃ κ t : zS, zfr [9, 50, 60, 64] σ κ ∧ (∀ j : Int, ¬ j = 17 → ¬ j = 20 → κ 9 j = σ 9 j) ∧ κ 9 20 = σ 9 20 + 1 ∧ κ 9 17 = (if σ 9 20 = 0 then 0 else σ 9 17) ∧ (∀ j : Int, κ 50 j = if j = σ 9 20 then κ 9 17 else σ 50 j) ∧ zLG 47 48 49 9 17 49660 κ t (2 * (m : Int)) ∧ (∀ x : Int, 0 ≤ x → x < 49660 → t 47 x = min 999 (σ 47 x + zoN (fun j : Nat => zsq σ (w j) (σ 45 i + zat (zmft σ i) w m (zmq σ i) 1000000000 j) (zrwk (zmft σ i) w m (zmq σ i) 1000000000 j)) x m + zoQ (fun j : Nat => 48984 + 26 * w (j - 1) + w j) x m)) ∧ zup (zfill t 55 0 40 0) 9 25 0 = u ∧ (m : Int) = v)))) 109 [some (.inr (.inr (9, 0))), some (.inl i), some (.inl (0 : Int)), some (.inl (0 : Int)), none, none] [] (zup (zup (zup u2 50 (u2 9 (20 : Int)) (u2 9 (17 : Int))) 9 (17 : Int) (u2 9 (17 : Int))) 9 (20 : Int) ((u2 9 (20 : Int)) + (1 : Int))))) ∧ ((u2 9 (20 : Int)) = 0 → (zI ((u2 9 (20 : Int)) + (1 : Int)) ∧ zRuns 144 zX0 (fun (v : Int) (u : zS) => ((¬ (0 ≤ i ∧ i < σ 9 13)) ∧ σ = u ∧ -1000001 = v) ∨ ((0 ≤ i ∧ i < σ 9 13) ∧ ((m = 0 ∧ σ = u ∧ -1000002 = v) ∨ (¬ m = 0 ∧ ¬ zsp (zmft σ i) w m (zmq σ i) 1000000000 m 0 < 1000000000 ∧ zfr [60] σ u ∧ -1000002 = v) ∨ (¬ m = 0 ∧ zsp (zmft σ i) w m (zmq σ i) 1000000000 m 0 < 1000000000 ∧ σ 9 20 = 50 ∧ zfr [60] σ u ∧ -1000003 = v) ∨ (¬ m = 0 ∧ zsp (zmft σ i) w m (zmq σ i) 1000000000 m 0 < 1000000000 ∧ ¬ σ 9 20 = 50 ∧ ∃ κ t : zS, zfr [9, 50, 60, 64] σ κ ∧ (∀ j : Int, ¬ j = 17 → ¬ j = 20 → κ 9 j = σ 9 j) ∧ κ 9 20 = σ 9 20 + 1 ∧ κ 9 17 = (if σ 9 20 = 0 then 0 else σ 9 17) ∧ (∀ j : Int, κ 50 j = if j = σ 9 20 then κ 9 17 else σ 50 j) ∧ zLG 47 48 49 9 17 49660 κ t (2 * (m : Int)) ∧ (∀ x : Int, 0 ≤ x → x < 49660 → t 47 x = min 999 (σ 47 x + zoN (fun j : Nat => zsq σ (w j) (σ 45 i + zat (zmft σ i) w m (zmq σ i) 1000000000 j) (zrwk (zmft σ i) w m (zmq σ i) 1000000000 j)) x m + zoQ (fun j : Nat => 48984 + 26 * w (j - 1) + w j) x m)) ∧ zup (zfill t 55 0 40 0) 9 25 0 = u ∧ (m : Int) = v)))) 109 [some (.inr (.inr (9, 0))), some (.inl i), some (.inl (0 : Int)), some (.inl (0 : Int)), none, none] [] (zup (zup (zup u2 50 (u2 9 (20 : Int)) (u2 9 (17 : Int))) 9 (17 : Int) (0 : Int)) 9 (20 : Int) ((u2 9 (20 : Int)) + (1 : Int)))))))) ∧ ((u2 9 (20 : Int)) = 0 → ((0 ≤ (u2 9 (20 : Int)) ∧ (u2 9 (20 : Int)) < (50 : Int)) ∧ ((¬ (u2 9 (20 : Int)) = 0 → (zI ((u2 9 (20 : Int)) + (1 : Int)) ∧ zRuns 144 zX0 (fun (v : Int) (u : zS) => ((¬ (0 ≤ i ∧ i < σ 9 13)) ∧ σ = u ∧ -1000001 = v) ∨ ((0 ≤ i ∧ i < σ 9 13) ∧ ((m = 0 ∧ σ = u ∧ -1000002 = v) ∨ (¬ m = 0 ∧ ¬ zsp (zmft σ i) w m (zmq σ i) 1000000000 m 0 < 1000000000 ∧ zfr [60] σ u ∧ -1000002 = v) ∨ (¬ m = 0 ∧ zsp (zmft σ i) w m (zmq σ i) 1000000000 m 0 < 1000000000 ∧ σ 9 20 = 50 ∧ zfr [60] σ u ∧ -1000003 = v) ∨ (¬ m = 0 ∧ zsp (zmft σ i) w m (zmq σ i) 1000000000 m 0 < 1000000000 ∧ ¬ σ 9 20 = 50 ∧ ∃ κ t : zS, zfr [9, 50, 60, 64] σ κ ∧ (∀ j : Int, ¬ j = 17 → ¬ j = 20 → κ 9 j = σ 9 j) ∧ κ 9 20 = σ 9 20 + 1 ∧ κ 9 17 = (if σ 9 20 = 0 then 0 else σ 9 17) ∧ (∀ j : Int, κ 50 j = if j = σ 9 20 then κ 9 17 else σ 50 j) ∧ zLG 47 48 49 9 17 49660 κ t (2 * (m : Int)) ∧ (∀ x : Int, 0 ≤ x → x < 49660 → t 47 x = min 999 (σ 47 x + zoN (fun j : Nat => zsq σ (w j) (σ 45 i + zat (zmft σ i) w m (zmq σ i) 1000000000 j) (zrwk (zmft σ i) w m (zmq σ i) 1000000000 j)) x m + zoQ (fun j : Nat => 48984 + 26 * w (j - 1) + w j) x m)) ∧ zup (zfill t 55 0 40 0) 9 25 0 = u ∧ (m : Int) = v)))) 109 [some (.inr (.inr (9, 0))), some (.inl i), some (.inl (0 : Int)), some (.inl (0 : Int)), none, none] [] (zup (zup (zup u2 50 (u2 9 (20 : Int)) (0 : Int)) 9 (17 : Int) (u2 9 (17 : Int))) 9 (20 : Int) ((u2 9 (20 : Int)) + (1 : Int))))) ∧ ((u2 9 (20 : Int)) = 0 → (zI ((u2 9 (20 : Int)) + (1 : Int)) ∧ zRuns 144 zX0 (fun (v : Int) (u : zS) => ((¬ (0 ≤ i ∧ i < σ 9 13)) ∧ σ = u ∧ -1000001 = v) ∨ ((0 ≤ i ∧ i < σ 9 13) ∧ ((m = 0 ∧ σ = u ∧ -1000002 = v) ∨ (¬ m = 0 ∧ ¬ zsp (zmft σ i) w m (zmq σ i) 1000000000 m 0 < 1000000000 ∧ zfr [60] σ u ∧ -1000002 = v) ∨ (¬ m = 0 ∧ zsp (zmft σ i) w m (zmq σ i) 1000000000 m 0 < 1000000000 ∧ σ 9 20 = 50 ∧ zfr [60] σ u ∧ -1000003 = v) ∨ (¬ m = 0 ∧ zsp (zmft σ i) w m (zmq σ i) 1000000000 m 0 < 1000000000 ∧ ¬ σ 9 20 = 50 ∧ ∃ κ t : zS, zfr [9, 50, 60, 64] σ κ ∧ (∀ j : Int, ¬ j = 17 → ¬ j = 20 → κ 9 j = σ 9 j) ∧ κ 9 20 = σ 9 20 + 1 ∧ κ 9 17 = (if σ 9 20 = 0 then 0 else σ 9 17) ∧ (∀ j : Int, κ 50 j = if j = σ 9 20 then κ 9 17 else σ 50 j) ∧ zLG 47 48 49 9 17 49660 κ t (2 * (m : Int)) ∧ (∀ x : Int, 0 ≤ x → x < 49660 → t 47 x = min 999 (σ 47 x + zoN (fun j : Nat => zsq σ (w j) (σ 45 i + zat (zmft σ i) w m (zmq σ i) 1000000000 j) (zrwk (zmft σ i) w m (zmq σ i) 1000000000 j)) x m + zoQ (fun j : Nat => 48984 + 26 * w (j - 1) + w j) x m)) ∧ zup (zfill t 55 0 40 0) 9 25 0 = u ∧ (m : Int) = v)))) 109 [some (.inr (.inr (9, 0))), some (.inl i), some (.inl (0 : Int)), some (.inl (0 : Int)), none, none] [] (zup (zup (zup u2 50 (u2 9 (20 : Int)) (0 : Int)) 9 (17 : Int) (0 : Int)) 9 (20 : Int) ((u2 9 (20 : Int)) + (1 : Int)))))))))) ∧ ((u2 9 (20 : Int)) = (50 : Int) → (((¬ (0 ≤ i ∧ i < σ 9 13)) ∧ σ = u2 ∧ -1000001 = (-1000003 : Int)) ∨ ((0 ≤ i ∧ i < σ 9 13) ∧ ((m = 0 ∧ σ = u2 ∧ -1000002 = (-1000003 : Int)) ∨ (¬ m = 0 ∧ ¬ zsp (zmft σ i) w m (zmq σ i) 1000000000 m 0 < 1000000000 ∧ zfr [60] σ u2 ∧ -1000002 = (-1000003 : Int)) ∨ (¬ m = 0 ∧ zsp (zmft σ i) w m (zmq σ i) 1000000000 m 0 < 1000000000 ∧ σ 9 20 = 50 ∧ zfr [60] σ u2 ∧ -1000003 = (-1000003 : Int)) ∨ (¬ m = 0 ∧ zsp (zmft σ i) w m (zmq σ i) 1000000000 m 0 < 1000000000 ∧ ¬ σ 9 20 = 50 ∧ ∃ κ t : zS, zfr [9, 50, 60, 64] σ κ ∧ (∀ j : Int, ¬ j = 17 → ¬ j = 20 → κ 9 j = σ 9 j) ∧ κ 9 20 = σ 9 20 + 1 ∧ κ 9 17 = (if σ 9 20 = 0 then 0 else σ 9 17) ∧ (∀ j : Int, κ 50 j = if j = σ 9 20 then κ 9 17 else σ 50 j) ∧ zLG 47 48 49 9 17 49660 κ t (2 * (m : Int)) ∧ (∀ x : Int, 0 ≤ x → x < 49660 → t 47 x = min 999 (σ 47 x + zoN (fun j : Nat => zsq σ (w j) (σ 45 i + zat (zmft σ i) w m (zmq σ i) 1000000000 j) (zrwk (zmft σ i) w m (zmq σ i) 1000000000 j)) x m + zoQ (fun j : Nat => 48984 + 26 * w (j - 1) + w j) x m)) ∧ zup (zfill t 55 0 40 0) 9 25 0 = u2 ∧ (m : Int) = (-1000003 : Int)))))))) ∧ ((1000000000 : Int) ≤ v2 → (((¬ (0 ≤ i ∧ i < σ 9 13)) ∧ σ = u2 ∧ -1000001 = (-1000002 : Int)) ∨ ((0 ≤ i ∧ i < σ 9 13) ∧ ((m = 0 ∧ σ = u2 ∧ -1000002 = (-1000002 : Int)) ∨ (¬ m = 0 ∧ ¬ zsp (zmft σ i) w m (zmq σ i) 1000000000 m 0 < 1000000000 ∧ zfr [60] σ u2 ∧ -1000002 = (-1000002 : Int)) ∨ (¬ m = 0 ∧ zsp (zmft σ i) w m (zmq σ i) 1000000000 m 0 < 1000000000 ∧ σ 9 20 = 50 ∧ zfr [60] σ u2 ∧ -1000003 = (-1000002 : Int)) ∨ (¬ m = 0 ∧ zsp (zmft σ i) w m (zmq σ i) 1000000000 m 0 < 1000000000 ∧ ¬ σ 9 20 = 50 ∧ ∃ κ t : zS, zfr [9, 50, 60, 64] σ κ ∧ (∀ j : Int, ¬ j = 17 → ¬ j = 20 → κ 9 j = σ 9 j) ∧ κ 9 20 = σ 9 20 + 1 ∧ κ 9 17 = (if σ 9 20 = 0 then 0 else σ 9 17) ∧ (∀ j : Int, κ 50 j = if j = σ 9 20 then κ 9 17 else σ 50 j) ∧ zLG 47 48 49 9 17 49660 κ t (2 * (m : Int)) ∧ (∀ x : Int, 0 ≤ x → x < 49660 → t 47 x = min 999 (σ 47 x + zoN (fun j : Nat => zsq σ (w j) (σ 45 i + zat (zmft σ i) w m (zmq σ i) 1000000000 j) (zrwk (zmft σ i) w m (zmq σ i) 1000000000 j)) x m + zoQ (fun j : Nat => 48984 + 26 * w (j - 1) + w j) x m)) ∧ zup (zfill t 55 0 40 0) 9 25 0 = u2 ∧ (m : Int) = (-1000002 : Int))))))))))) ∧ (v1 = 0 → (((¬ (0 ≤ i ∧ i < σ 9 13)) ∧ σ = u1 ∧ -1000001 = (-1000001 : Int)) ∨ ((0 ≤ i ∧ i < σ 9 13) ∧ ((m = 0 ∧ σ = u1 ∧ -1000002 = (-1000001 : Int)) ∨ (¬ m = 0 ∧ ¬ zsp (zmft σ i) w m (zmq σ i) 1000000000 m 0 < 1000000000 ∧ zfr [60] σ u1 ∧ -1000002 = (-1000001 : Int)) ∨ (¬ m = 0 ∧ zsp (zmft σ i) w m (zmq σ i) 1000000000 m 0 < 1000000000 ∧ σ 9 20 = 50 ∧ zfr [60] σ u1 ∧ -1000003 = (-1000001 : Int)) ∨ (¬ m = 0 ∧ zsp (zmft σ i) w m (zmq σ i) 1000000000 m 0 < 1000000000 ∧ ¬ σ 9 20 = 50 ∧ ∃ κ t : zS, zfr [9, 50, 60, 64] σ κ ∧ (∀ j : Int, ¬ j = 17 → ¬ j = 20 → κ 9 j = σ 9 j) ∧ κ 9 20 = σ 9 20 + 1 ∧ κ 9 17 = (if σ 9 20 = 0 then 0 else σ 9 17) ∧ (∀ j : Int, κ 50 j = if j = σ 9 20 then κ 9 17 else σ 50 j) ∧ zLG 47 48 49 9 17 49660 κ t (2 * (m : Int)) ∧ (∀ x : Int, 0 ≤ x → x < 49660 → t 47 x = min 999 (σ 47 x + zoN (fun j : Nat => zsq σ (w j) (σ 45 i + zat (zmft σ i) w m (zmq σ i) 1000000000 j) (zrwk (zmft σ i) w m (zmq σ i) 1000000000 j)) x m + zoQ (fun j : Nat => 48984 + 26 * w (j - 1) + w j) x m)) ∧ zup (zfill t 55 0 40 0) 9 25 0 = u1 ∧ (m : Int) = (-1000001 : Int))))))))
  refine ⟨_, am_X9_isInk (hM.1.1), ?_⟩
  intro v1 u1 hv1
  rintro ⟨rfl, (⟨rfl, cv1⟩ | ⟨rfl, cv1⟩)⟩
  · refine ⟨?_, ?_⟩
    · intro _
      refine ⟨?_, ?_⟩
      · intro h2
        first
          | exact Or.inl ⟨cv1, rfl, rfl⟩
          | exact Or.inr ⟨cv1, Or.inl ⟨by omega, rfl, rfl⟩⟩
          | exact Or.inr ⟨cv1, Or.inr (Or.inl ⟨by omega, by omega, c1, rfl⟩)⟩
          | exact Or.inr ⟨cv1, Or.inr (Or.inr (Or.inl ⟨by omega, by omega, by omega, c1, rfl⟩))⟩
      · intro h3
        have h13 := hM.1.1
        have h5 := hM.1.2.1
        have h2' := hM.1.2.2.1 i cv1.1 cv1.2
        have hfr9 := zmft_r hM.1 cv1
        rw [h25]
        refine ⟨_, am_X9_spellw (q0 := 0) (p := σ 45 (i + 1) - σ 45 i) (w := w) (n9 := m) (f := zmft σ i) (by omega) (by omega) (hw) (by omega) (by omega) (fun j j0 j1 => hM.1.2.2.2.1 j (by omega) (by omega)) (hM.1.2.2.2.2) (fun _ a k l a0 k0 k1 ak l0 l1 => hfr9 a k l a0 k0 k1 ak l0 l1) (⟨by omega, by omega, fun j j0 j1 => by rw [Int.zero_add]; exact h53 j j0 j1⟩), ?_⟩
        intro v2 u2 hv2
        intro kv2
        obtain ⟨hv2a, hv2b⟩ := hv2
        obtain ⟨c1, c2, c3⟩ := kv2
        rw [← zmq_p] at c3
        have e920 : u2 9 20 = σ 9 20 := by rw [c1 9 (by decide)]
        refine ⟨?_, ?_⟩
        · intro h4
          refine ⟨?_, ?_⟩
          · intro h5
            refine ⟨?_, ?_⟩
            · intro h6
              refine ⟨by (omega), ?_⟩
              refine ⟨?_, ?_⟩
              · intro h7
                refine ⟨by (exact ⟨by omega, by omega⟩), ?_⟩
                have cfin : zsp (zmft σ i) w m (zmq σ i) 1000000000 m 0 < 1000000000 := by omega
                have hpq : zmq σ i = σ 45 (i + 1) - σ 45 i := by
                  unfold zmq
                  rw [if_neg (fun z9 => ?_)]
                  have hz0 : zmq σ i = 0 := by unfold zmq; rw [if_pos z9]
                  rw [hz0] at cfin
                  obtain ⟨d9, rfl⟩ : ∃ d : Nat, m = d + 1 := ⟨m - 1, by omega⟩
                  rw [zsp_0] at cfin
                  omega
                have hq14 : 0 ≤ zmq σ i ∧ zmq σ i ≤ 14 := by unfold zmq; split <;> omega
                have c20 := c2 (by rw [← hpq]; exact hq14.2)
                rw [← hpq] at c20
                have ef := hfr9
                refine lp_mt109 (σ := (zup (zup (zup u2 50 (u2 9 (20 : Int)) (u2 9 (17 : Int))) 9 (17 : Int) (u2 9 (17 : Int))) 9 (20 : Int) ((u2 9 (20 : Int)) + (1 : Int)))) (f := zmft σ i) (p := zmq σ i) (w := w) (m := m) ⟨by omega, by omega⟩ hw hm hq14 (by show 0 ≤ u2 45 i ∧ u2 45 i + zmq σ i ≤ 40; rw [c1 45 (by decide), hpq]; omega) (by show ∀ j : Int, u2 45 i ≤ j → j < u2 45 i + zmq σ i → 0 ≤ u2 42 j ∧ u2 42 j < 12; rw [c1 45 (by decide), c1 42 (by decide), hpq]; exact fun j a0 a1 => hM.1.2.2.2.1 j (by omega) (by omega)) (by show ∀ j : Int, 0 ≤ j → j < 49660 → 0 ≤ u2 47 j ∧ u2 47 j ≤ 999; rw [c1 47 (by decide)]; exact hM.1.2.2.2.2) (fun a k l a0 k0 k1 ak l0 l1 => by show zmc _ l (u2 45 i + a) k = _ ∧ _; rw [zmc_fr (σ := σ) (by exact c1 42 (by decide)) (by exact c1 43 (by decide)) (by exact c1 47 (by decide)), c1 45 (by decide)]; rw [hpq] at ak; exact hfr9 a k l a0 k0 k1 ak l0 l1) (by show ∀ j : Int, 0 ≤ j → j < m → u2 53 j = w j.toNat; rw [c1 53 (by decide)]; exact h53) c20 cfin (by show u2 45 (i + 1) = u2 45 i + zmq σ i; rw [c1 45 (by decide), hpq]; omega) (by show u2 9 25 = (m : Int); rw [c1 9 (by decide)]; exact h25) (fun t9 g1 g2 => ?_) (m + 2) 0 _ (by omega) (by omega) zfr.rf (fun j hj => by omega)
                have e9 : ∀ j : Int, t9 9 j = (zup (zup (zup u2 50 (u2 9 (20 : Int)) (u2 9 (17 : Int))) 9 (17 : Int) (u2 9 (17 : Int))) 9 (20 : Int) ((u2 9 (20 : Int)) + (1 : Int))) 9 j := fun j => congrFun (g1 9 (by decide)) j
                have e50 : ∀ j : Int, t9 50 j = (zup (zup (zup u2 50 (u2 9 (20 : Int)) (u2 9 (17 : Int))) 9 (17 : Int) (u2 9 (17 : Int))) 9 (20 : Int) ((u2 9 (20 : Int)) + (1 : Int))) 50 j := fun j => congrFun (g1 50 (by decide)) j
                have e917 : u2 9 17 = σ 9 17 := by rw [c1 9 (by decide)]
                have o50 : ∀ j : Int, u2 50 j = σ 50 j := fun j => by rw [c1 50 (by decide)]
                have o9 : ∀ j : Int, u2 9 j = σ 9 j := fun j => by rw [c1 9 (by decide)]
                have q42 : t9 42 = σ 42 := (g1 42 (by decide)).trans (c1 42 (by decide))
                have q45 : t9 45 = σ 45 := (g1 45 (by decide)).trans (c1 45 (by decide))
                have q47 : t9 47 = σ 47 := (g1 47 (by decide)).trans (c1 47 (by decide))
                have q53 : t9 53 = σ 53 := (g1 53 (by decide)).trans (c1 53 (by decide))
                have q17 : t9 9 17 = (if σ 9 20 = 0 then 0 else σ 9 17) := by
                  rw [e9]
                  simp [zup]
                  omega
                have q20 : t9 9 20 = σ 9 20 + 1 := by
                  rw [e9]
                  simp [zup]
                  omega
                have q9 : ∀ j : Int, ¬ j = 17 → ¬ j = 20 → t9 9 j = σ 9 j := fun j j0 j1 => by
                  rw [e9]
                  simp [zup, j0, j1]
                  exact o9 j
                have q50 : ∀ j : Int, t9 50 j = if j = σ 9 20 then t9 9 17 else σ 50 j := fun j => by
                  rw [e50, q17]
                  simp [zup, o50, e920, e917]
                  split <;> (try split) <;> first | rfl | omega
                have hzq : ∀ (l x m' : Int), zsq t9 l x m' = zsq σ l x m' := fun l x m' => by unfold zsq; rw [q42]
                have hz0 : zat (zmft σ i) w m (zmq σ i) 1000000000 0 = 0 := rfl
                have h := lp_mt178 (σ := t9) (at_ := zat (zmft σ i) w m (zmq σ i) 1000000000) (row := zrwk (zmft σ i) w m (zmq σ i) 1000000000) (b := σ 45 i) (w := w) (m := m) hw ⟨by omega, hm⟩ (by rw [q9 25 (by decide) (by decide)]; exact h25) (by rw [q53]; exact h53) (by rw [q47]; exact hM.1.2.2.2.2) (by omega) (by rw [q17]; split <;> omega) (by omega) (fun k hk => by
                  have ok := zat_ok hq14.1 cfin (k := k) (by omega)
                  have ok2 := ok.2.2 hk
                  exact ⟨ok2.1, ⟨by omega, by omega⟩, zat_s, fun j j0 j1 => by rw [q42]; exact hM.1.2.2.2.1 j (by omega) (by omega)⟩) (fun k hk => g2 k hk) hz0 (m + 2) 0 t9 (by omega) (by omega) zLG.rf (fun x x0 x1 => by
                  have p1 := hM.1.2.2.2.2 x x0 x1
                  rw [q47]
                  simp only [zoN]
                  omega)
                rw [hz0, Int.add_zero] at h
                have qb : (zup (zup (zup u2 50 (u2 9 (20 : Int)) (u2 9 (17 : Int))) 9 (17 : Int) (u2 9 (17 : Int))) 9 (20 : Int) ((u2 9 (20 : Int)) + (1 : Int))) 45 i = σ 45 i := congrFun (c1 45 (by decide)) i
                rw [qb]
                refine zRuns.mono ?_ h
                rintro v u ⟨t, a1, a2, a3, a4⟩
                refine Or.inr ⟨cv1, Or.inr (Or.inr (Or.inr ⟨by omega, by omega, by omega, t9, t, ?_, q9, q20, q17, q50, a1, fun x x0 x1 => ?_, a3, a4⟩))⟩
                · have cw : zfr [9, 50, 60, 64] σ u2 := zfr.trans zfr.rf c1 (by decide) (fun _ _ => trivial)
                  exact zfr.trans (((cw.up (c := 50) (by decide)).up (c := 9) (by decide)).up (c := 9) (by decide)) g1 (by decide) (fun _ _ => trivial)
                · have a5 := a2 x x0 x1
                  rw [q47] at a5
                  simp only [hzq] at a5
                  exact a5
              · intro h8
                refine ⟨by (exact ⟨by omega, by omega⟩), ?_⟩
                have cfin : zsp (zmft σ i) w m (zmq σ i) 1000000000 m 0 < 1000000000 := by omega
                exfalso
                omega
            · intro h9
              refine ⟨by (omega), ?_⟩
              refine ⟨?_, ?_⟩
              · intro h10
                refine ⟨by (exact ⟨by omega, by omega⟩), ?_⟩
                have cfin : zsp (zmft σ i) w m (zmq σ i) 1000000000 m 0 < 1000000000 := by omega
                exfalso
                omega
              · intro h11
                refine ⟨by (exact ⟨by omega, by omega⟩), ?_⟩
                have cfin : zsp (zmft σ i) w m (zmq σ i) 1000000000 m 0 < 1000000000 := by omega
                have hpq : zmq σ i = σ 45 (i + 1) - σ 45 i := by
                  unfold zmq
                  rw [if_neg (fun z9 => ?_)]
                  have hz0 : zmq σ i = 0 := by unfold zmq; rw [if_pos z9]
                  rw [hz0] at cfin
                  obtain ⟨d9, rfl⟩ : ∃ d : Nat, m = d + 1 := ⟨m - 1, by omega⟩
                  rw [zsp_0] at cfin
                  omega
                have hq14 : 0 ≤ zmq σ i ∧ zmq σ i ≤ 14 := by unfold zmq; split <;> omega
                have c20 := c2 (by rw [← hpq]; exact hq14.2)
                rw [← hpq] at c20
                have ef := hfr9
                refine lp_mt109 (σ := (zup (zup (zup u2 50 (u2 9 (20 : Int)) (0 : Int)) 9 (17 : Int) (0 : Int)) 9 (20 : Int) ((u2 9 (20 : Int)) + (1 : Int)))) (f := zmft σ i) (p := zmq σ i) (w := w) (m := m) ⟨by omega, by omega⟩ hw hm hq14 (by show 0 ≤ u2 45 i ∧ u2 45 i + zmq σ i ≤ 40; rw [c1 45 (by decide), hpq]; omega) (by show ∀ j : Int, u2 45 i ≤ j → j < u2 45 i + zmq σ i → 0 ≤ u2 42 j ∧ u2 42 j < 12; rw [c1 45 (by decide), c1 42 (by decide), hpq]; exact fun j a0 a1 => hM.1.2.2.2.1 j (by omega) (by omega)) (by show ∀ j : Int, 0 ≤ j → j < 49660 → 0 ≤ u2 47 j ∧ u2 47 j ≤ 999; rw [c1 47 (by decide)]; exact hM.1.2.2.2.2) (fun a k l a0 k0 k1 ak l0 l1 => by show zmc _ l (u2 45 i + a) k = _ ∧ _; rw [zmc_fr (σ := σ) (by exact c1 42 (by decide)) (by exact c1 43 (by decide)) (by exact c1 47 (by decide)), c1 45 (by decide)]; rw [hpq] at ak; exact hfr9 a k l a0 k0 k1 ak l0 l1) (by show ∀ j : Int, 0 ≤ j → j < m → u2 53 j = w j.toNat; rw [c1 53 (by decide)]; exact h53) c20 cfin (by show u2 45 (i + 1) = u2 45 i + zmq σ i; rw [c1 45 (by decide), hpq]; omega) (by show u2 9 25 = (m : Int); rw [c1 9 (by decide)]; exact h25) (fun t9 g1 g2 => ?_) (m + 2) 0 _ (by omega) (by omega) zfr.rf (fun j hj => by omega)
                have e9 : ∀ j : Int, t9 9 j = (zup (zup (zup u2 50 (u2 9 (20 : Int)) (0 : Int)) 9 (17 : Int) (0 : Int)) 9 (20 : Int) ((u2 9 (20 : Int)) + (1 : Int))) 9 j := fun j => congrFun (g1 9 (by decide)) j
                have e50 : ∀ j : Int, t9 50 j = (zup (zup (zup u2 50 (u2 9 (20 : Int)) (0 : Int)) 9 (17 : Int) (0 : Int)) 9 (20 : Int) ((u2 9 (20 : Int)) + (1 : Int))) 50 j := fun j => congrFun (g1 50 (by decide)) j
                have e917 : u2 9 17 = σ 9 17 := by rw [c1 9 (by decide)]
                have o50 : ∀ j : Int, u2 50 j = σ 50 j := fun j => by rw [c1 50 (by decide)]
                have o9 : ∀ j : Int, u2 9 j = σ 9 j := fun j => by rw [c1 9 (by decide)]
                have q42 : t9 42 = σ 42 := (g1 42 (by decide)).trans (c1 42 (by decide))
                have q45 : t9 45 = σ 45 := (g1 45 (by decide)).trans (c1 45 (by decide))
                have q47 : t9 47 = σ 47 := (g1 47 (by decide)).trans (c1 47 (by decide))
                have q53 : t9 53 = σ 53 := (g1 53 (by decide)).trans (c1 53 (by decide))
                have q17 : t9 9 17 = (if σ 9 20 = 0 then 0 else σ 9 17) := by
                  rw [e9]
                  simp [zup]
                  omega
                have q20 : t9 9 20 = σ 9 20 + 1 := by
                  rw [e9]
                  simp [zup]
                  omega
                have q9 : ∀ j : Int, ¬ j = 17 → ¬ j = 20 → t9 9 j = σ 9 j := fun j j0 j1 => by
                  rw [e9]
                  simp [zup, j0, j1]
                  exact o9 j
                have q50 : ∀ j : Int, t9 50 j = if j = σ 9 20 then t9 9 17 else σ 50 j := fun j => by
                  rw [e50, q17]
                  simp [zup, o50, e920, e917]
                  split <;> (try split) <;> first | rfl | omega
                have hzq : ∀ (l x m' : Int), zsq t9 l x m' = zsq σ l x m' := fun l x m' => by unfold zsq; rw [q42]
                have hz0 : zat (zmft σ i) w m (zmq σ i) 1000000000 0 = 0 := rfl
                have h := lp_mt178 (σ := t9) (at_ := zat (zmft σ i) w m (zmq σ i) 1000000000) (row := zrwk (zmft σ i) w m (zmq σ i) 1000000000) (b := σ 45 i) (w := w) (m := m) hw ⟨by omega, hm⟩ (by rw [q9 25 (by decide) (by decide)]; exact h25) (by rw [q53]; exact h53) (by rw [q47]; exact hM.1.2.2.2.2) (by omega) (by rw [q17]; split <;> omega) (by omega) (fun k hk => by
                  have ok := zat_ok hq14.1 cfin (k := k) (by omega)
                  have ok2 := ok.2.2 hk
                  exact ⟨ok2.1, ⟨by omega, by omega⟩, zat_s, fun j j0 j1 => by rw [q42]; exact hM.1.2.2.2.1 j (by omega) (by omega)⟩) (fun k hk => g2 k hk) hz0 (m + 2) 0 t9 (by omega) (by omega) zLG.rf (fun x x0 x1 => by
                  have p1 := hM.1.2.2.2.2 x x0 x1
                  rw [q47]
                  simp only [zoN]
                  omega)
                rw [hz0, Int.add_zero] at h
                have qb : (zup (zup (zup u2 50 (u2 9 (20 : Int)) (0 : Int)) 9 (17 : Int) (0 : Int)) 9 (20 : Int) ((u2 9 (20 : Int)) + (1 : Int))) 45 i = σ 45 i := congrFun (c1 45 (by decide)) i
                rw [qb]
                refine zRuns.mono ?_ h
                rintro v u ⟨t, a1, a2, a3, a4⟩
                refine Or.inr ⟨cv1, Or.inr (Or.inr (Or.inr ⟨by omega, by omega, by omega, t9, t, ?_, q9, q20, q17, q50, a1, fun x x0 x1 => ?_, a3, a4⟩))⟩
                · have cw : zfr [9, 50, 60, 64] σ u2 := zfr.trans zfr.rf c1 (by decide) (fun _ _ => trivial)
                  exact zfr.trans (((cw.up (c := 50) (by decide)).up (c := 9) (by decide)).up (c := 9) (by decide)) g1 (by decide) (fun _ _ => trivial)
                · have a5 := a2 x x0 x1
                  rw [q47] at a5
                  simp only [hzq] at a5
                  exact a5
          · intro h12
            first
              | exact Or.inl ⟨cv1, rfl, rfl⟩
              | exact Or.inr ⟨cv1, Or.inl ⟨by omega, rfl, rfl⟩⟩
              | exact Or.inr ⟨cv1, Or.inr (Or.inl ⟨by omega, by omega, c1, rfl⟩)⟩
              | exact Or.inr ⟨cv1, Or.inr (Or.inr (Or.inl ⟨by omega, by omega, by omega, c1, rfl⟩))⟩
        · intro h13
          first
            | exact Or.inl ⟨cv1, rfl, rfl⟩
            | exact Or.inr ⟨cv1, Or.inl ⟨by omega, rfl, rfl⟩⟩
            | exact Or.inr ⟨cv1, Or.inr (Or.inl ⟨by omega, by omega, c1, rfl⟩)⟩
            | exact Or.inr ⟨cv1, Or.inr (Or.inr (Or.inl ⟨by omega, by omega, by omega, c1, rfl⟩))⟩
    · exact fun h => absurd h (by decide)
  · refine ⟨?_, ?_⟩
    · exact fun h => absurd h (by decide)
    · intro _
      first
        | exact Or.inl ⟨cv1, rfl, rfl⟩
        | exact Or.inr ⟨cv1, Or.inl ⟨by omega, rfl, rfl⟩⟩
        | exact Or.inr ⟨cv1, Or.inr (Or.inl ⟨by omega, by omega, c1, rfl⟩)⟩
        | exact Or.inr ⟨cv1, Or.inr (Or.inr (Or.inl ⟨by omega, by omega, by omega, c1, rfl⟩))⟩
