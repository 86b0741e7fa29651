set_option maxRecDepth 100000 in
set_option maxHeartbeats 4000000 in
theorem lp_cr104 {k : Nat} {w : Nat → Int} {m : Nat} {a : Int} {t : zS} {R : Int → zS → Prop} (ha : 0 ≤ a ∧ a ≤ 14) (hr : 0 ≤ t 34 (k : Int) ∧ t 34 (k : Int) ≤ 3) (hk : k < 12) (K : zRuns 46 zX0 R 12 [some (.inr (.inr (7, 0))), some (.inr (.inr (5, 0))), some (.inr (.inl (zlc w m))), none, some (.inl (m : Int)), some (.inl (a + t 34 (k : Int))), some (.inl ((k + 1 : Nat) : Int)), none] [] t) : zRuns 46 zX0 R 104 [some (.inr (.inr (7, 0))), some (.inr (.inr (5, 0))), some (.inr (.inl (zlc w m))), none, some (.inl (m : Int)), some (.inl a), some (.inl (k : Int)), none] [] t := by
  refine zwalk zmk_46 [(12, [true, true, true, false, true, true, true, false]), (40, [true, true, true, false, true, true, true, true]), (104, [true, true, true, false, true, true, true, false])] 2 ?_
  show ((0 ≤ (k : Int) ∧ (k : Int) < (12 : Int)) ∧ (zI (a + (t 34 (k : Int))) ∧ (zI ((k : Int) + (1 : Int)) ∧ zRuns 46 zX0 (fun (v : Int) (u : zS) => R v u) 12 [some (.inr (.inr (7, 0))), some (.inr (.inr (5, 0))), some (.inr (.inl (zlc w m))), none, some (.inl (m : Int)), some (.inl (a + (t 34 (k : Int)))), some (.inl ((k : Int) + (1 : Int))), none] [] t)))
  refine ⟨by (first | exact ⟨by omega, by omega⟩ | (exfalso; omega)), ?_⟩
  refine ⟨by (first | exact ⟨by omega, by omega⟩ | (exfalso; omega)), ?_⟩
  refine ⟨by (first | exact ⟨by omega, by omega⟩ | (exfalso; omega)), ?_⟩
  have e : ((k + 1 : Nat) : Int) = (k : Int) + 1 := by omega
  rw [e] at K
  exact K
set_option maxRecDepth 100000 in
set_option maxHeartbeats 4000000 in
theorem lp_cr12 {w : Nat → Int} {m : Nat} {p : Int} {f : Int → Int → Int → Int} {σ : zS} (hw : zlet w m) (hm : m ≤ 12) (hp : 0 ≤ p ∧ p ≤ 14) (h51 : σ 5 1 = p) (hf : ∀ a k l : Int, 0 ≤ a → 1 ≤ k → k ≤ 3 → a + k ≤ p → 0 ≤ l → l < 26 → σ 29 (zfp a k l) = f a k l ∧ -1 ≤ f a k l ∧ f a k l ≤ 100) (h33 : ∀ x y : Int, 0 ≤ x → x ≤ m → 0 ≤ y → y ≤ p → σ 33 (x * 15 + y) = zsp f w m p 1000000 (m - x).toNat y) (hfin : zsp f w m p 1000000 m 0 < 1000000) : ∀ (n : Nat) (k : Nat) (t : zS), (m : Int) + 1 - (k : Int) < (n : Int) → (k ≤ m) → (zfr [34] σ t) → (∀ j : Nat, j < k → t 34 (j : Int) = zrwk f w m p 1000000 j) → zRuns 46 zX0 (fun (v : Int) (u : zS) => zfr [34] σ u ∧ ∀ j : Nat, j < m → u 34 (j : Int) = zrwk f w m p 1000000 j) 12 [some (.inr (.inr (7, 0))), some (.inr (.inr (5, 0))), some (.inr (.inl (zlc w m))), none, some (.inl (m : Int)), some (.inl (zat f w m p 1000000 k)), some (.inl (k : Int)), none] [] t := by
  intro n
  induction n with
  | zero =>
    intro k t hn k0 hfr hd
    exfalso
    omega
  | succ n ih =>
    intro k t hn k0 hfr hd
    refine zwalk zmk_46 [(12, [true, true, true, false, true, true, true, false]), (40, [true, true, true, false, true, true, true, true])] 3 ?_
    show (((m : Int) ≤ (k : Int) → (zfr [34] σ t ∧ ∀ j : Nat, j < m → t 34 (j : Int) = zrwk f w m p 1000000 j)) ∧ ((k : Int) < (m : Int) → ((0 ≤ (k : Int) ∧ (k : Int) < (12 : Int)) ∧ (zI ((t 5 (1 : Int)) - (zat f w m p 1000000 k)) ∧ zRuns 46 zX0 (fun (v : Int) (u : zS) => zfr [34] σ u ∧ ∀ j : Nat, j < m → u 34 (j : Int) = zrwk f w m p 1000000 j) 40 [some (.inr (.inr (7, 0))), some (.inr (.inr (5, 0))), some (.inr (.inl (zlc w m))), none, some (.inl (m : Int)), some (.inl (zat f w m p 1000000 k)), some (.inl (k : Int)), some (.inl (min (3 : Int) ((t 5 (1 : Int)) - (zat f w m p 1000000 k))))] [] (zup t 34 (k : Int) (0 : Int))))))
    have e5 : t 5 = σ 5 := hfr 5 (by decide)
    have e51 : t 5 1 = p := by rw [e5]; exact h51
    have hok := zat_ok hp.1 hfin (k := k) k0
    refine ⟨?_, ?_⟩
    · intro h1
      exact ⟨hfr, fun j hj => hd j (by omega)⟩
    · intro h2
      refine ⟨by (first | exact ⟨by omega, by omega⟩ | (exfalso; omega)), ?_⟩
      refine ⟨by (first | exact ⟨by omega, by omega⟩ | (exfalso; omega)), ?_⟩
      have hrw := hok.2.2 (by omega)
      have e29 : t 29 = σ 29 := hfr 29 (by decide)
      have e33 : t 33 = σ 33 := hfr 33 (by decide)
      refine lp_cr40 (σ := t) hw hm hp e51 (by rw [e29]; exact hf) (by rw [e33]; exact h33) hfin (by omega) (fun t9 g1 g2 g3 => ?_) 5 _ _ (by omega) ⟨by omega, by omega, by omega⟩ (zfr.rf.up (c := 34) (by decide)) (fun j hj => by rw [zup_at, if_neg hj]) (Or.inl ⟨by rw [zup_at, if_pos rfl], by omega⟩)
      refine lp_cr104 ⟨by omega, by omega⟩ (by rw [g3]; omega) (by omega) ?_
      rw [g3, ← zat_s]
      refine ih (k + 1) t9 (by omega) (by omega) (fun q hq => by rw [g1 q hq, hfr q hq]) (fun j hj => ?_)
      by_cases e : j = k
      · rw [e]; exact g3
      · rw [g2 (j : Int) (by omega)]; exact hd j (by omega)
set_option maxRecDepth 100000 in
set_option maxHeartbeats 4000000 in
theorem am_X6_chooseRows {σ : zS} {w : Nat → Int} {m : Nat} {p : Int} {f : Int → Int → Int → Int} (hw : zlet w m) (hm : m ≤ 12) (hp : 0 ≤ p ∧ p ≤ 14) (h51 : σ 5 1 = p) (hf : ∀ a k l : Int, 0 ≤ a → 1 ≤ k → k ≤ 3 → a + k ≤ p → 0 ≤ l → l < 26 → σ 29 (zfp a k l) = f a k l ∧ -1 ≤ f a k l ∧ f a k l ≤ 100) (h33 : ∀ x y : Int, 0 ≤ x → x ≤ m → 0 ≤ y → y ≤ p → σ 33 (x * 15 + y) = zsp f w m p 1000000 (m - x).toNat y) (hfin : zsp f w m p 1000000 m 0 < 1000000) : zAM 46 [.inr (.inr (7, 0)), .inr (.inr (5, 0)), .inr (.inl (zlc w m))] σ (fun (v : Int) (u : zS) => zfr [34] σ u ∧ ∀ j : Nat, j < m → u 34 (j : Int) = zrwk f w m p 1000000 j) := by
  refine zam (by decide) (Nat.le_of_ble_eq_true rfl) ?_
  refine zwalk zmk_46 [(12, [true, true, true, false, true, true, true, false]), (40, [true, true, true, false, true, true, true, true])] 2 ?_
  show (∃ Rc : Int → zS → Prop, zAM 88 [.inr (.inl (zlc w m))] σ Rc ∧ ∀ (v1 : Int) (u1 : zS), zI v1 → Rc v1 u1 → zRuns 46 zX0 (fun (v : Int) (u : zS) => zfr [34] σ u ∧ ∀ j : Nat, j < m → u 34 (j : Int) = zrwk f w m p 1000000 j) 12 [some (.inr (.inr (7, 0))), some (.inr (.inr (5, 0))), some (.inr (.inl (zlc w m))), none, some (.inl v1), some (.inl (0 : Int)), some (.inl (0 : Int)), none] [] u1)
  refine ⟨_, am_X8_lettersOf (hw) (hm), ?_⟩
  intro v1 u1 hv1
  rintro ⟨rfl, ev1⟩
  obtain ⟨hv1a, hv1b⟩ := hv1
  subst ev1
  exact lp_cr12 hw hm hp h51 hf h33 hfin (m + 2) 0 σ (by omega) (by omega) zfr.rf (fun j hj => by omega)
/-! logs of counts: raised, and what undoing gives -/
theorem zund_congr {sl ol sl' ol' : Int → Int} {lo : Int} : ∀ {m : Nat} {g : Int → Int}, (∀ j : Int, lo ≤ j → j < lo + m → sl' j = sl j ∧ ol' j = ol j) → zund sl' ol' lo m g = zund sl ol lo m g
  | 0, _, _ => rfl
  | m + 1, g, h => by
    obtain ⟨e1, e2⟩ := h (lo + (m : Int)) (by omega) (by omega)
    show zund sl' ol' lo m _ = zund sl ol lo m _
    rw [e1, e2]
    exact zund_congr (fun j a b => h j a (by omega))
theorem zund_push {sl ol sl' ol' g g' : Int → Int} {lo top s : Int} (h : ∀ j : Int, j < top → sl' j = sl j ∧ ol' j = ol j) (h1 : sl' top = s) (h2 : ol' top = g s) (hg : ∀ x : Int, ¬ x = s → g' x = g x) (hl : lo ≤ top) : zund sl' ol' lo (top + 1 - lo).toNat g' = zund sl ol lo (top - lo).toNat g := by
  obtain ⟨m, e⟩ : ∃ m : Nat, top = lo + m := ⟨(top - lo).toNat, by omega⟩
  subst e
  rw [show (lo + (m : Int) + 1 - lo).toNat = m + 1 by omega, show (lo + (m : Int) - lo).toNat = m by omega]
  show zund sl' ol' lo m (fun j => if j = sl' (lo + (m : Int)) then ol' (lo + (m : Int)) else g' j) = _
  rw [h1, h2, zund_congr (fun j a b => h j b)]
  congr 1
  funext x
  by_cases q : x = s
  · rw [if_pos q, q]
  · rw [if_neg q]; exact hg x q
/-- undone to mid, then to lo: undone to lo -/
theorem zund_split {sl ol : Int → Int} {lo mid : Int} (h : lo ≤ mid) : ∀ {m : Nat} {g : Int → Int}, zund sl ol lo (mid + m - lo).toNat g = zund sl ol lo (mid - lo).toNat (zund sl ol mid m g)
  | 0, g => by rw [show mid + ((0 : Nat) : Int) - lo = mid - lo by omega]; rfl
  | m + 1, g => by
    obtain ⟨d, e⟩ : ∃ d : Nat, mid = lo + d := ⟨(mid - lo).toNat, by omega⟩
    have e1 : (mid + ((m + 1 : Nat) : Int) - lo).toNat = (d + m) + 1 := by omega
    have e2 : (mid + (m : Int) - lo).toNat = d + m := by omega
    rw [e1]
    show zund sl ol lo (d + m) (fun j => if j = sl (lo + ((d + m : Nat) : Int)) then ol (lo + ((d + m : Nat) : Int)) else g j) = zund sl ol lo (mid - lo).toNat (zund sl ol mid m (fun j => if j = sl (mid + (m : Int)) then ol (mid + (m : Int)) else g j))
    rw [show lo + ((d + m : Nat) : Int) = mid + (m : Int) by omega, ← e2]
    exact zund_split h
/-- some raises, b at most, of the counts in G, told by the log SL, OL, whose end is the number T of C -/
def zLG (G SL OL C : Nat) (T B : Int) (σ u : zS) (b : Int) : Prop := zfr [C, G, SL, OL] σ u ∧ (∀ j : Int, ¬ j = T → u C j = σ C j) ∧ (σ C T ≤ u C T ∧ u C T ≤ σ C T + b) ∧ (∀ j : Int, σ C T ≤ j → j < u C T → 0 ≤ u SL j ∧ u SL j < B) ∧ (∀ j : Int, j < σ C T → u SL j = σ SL j ∧ u OL j = σ OL j) ∧ ∀ lo : Int, 0 ≤ lo → lo ≤ σ C T → zund (u SL) (u OL) lo (u C T - lo).toNat (u G) = zund (σ SL) (σ OL) lo (σ C T - lo).toNat (σ G)
theorem zLG.rf {G SL OL C : Nat} {T B : Int} {σ : zS} : zLG G SL OL C T B σ σ 0 := ⟨zfr.rf, fun _ _ => rfl, by omega, fun j a b => by omega, fun _ _ => ⟨rfl, rfl⟩, fun _ _ _ => rfl⟩
theorem zLG.trans {G SL OL C : Nat} {T B : Int} {σ s u : zS} {a b : Int} (h : zLG G SL OL C T B σ s a) (k : zLG G SL OL C T B s u b) : zLG G SL OL C T B σ u (a + b) := by
  obtain ⟨h1, h2, h3, h4, h5, h6⟩ := h
  obtain ⟨k1, k2, k3, k4, k5, k6⟩ := k
  refine ⟨fun q hq => by rw [k1 q hq, h1 q hq], fun j hj => by rw [k2 j hj, h2 j hj], by omega, fun j a b => ?_, fun j a => ?_, fun lo a b => ?_⟩
  · by_cases e : j < s C T
    · rw [(k5 j e).1]; exact h4 j a e
    · exact k4 j (by omega) b
  · rw [(k5 j (by omega)).1, (k5 j (by omega)).2]; exact h5 j a
  · rw [k6 lo a (by omega), h6 lo a b]
theorem zLG.le {G SL OL C : Nat} {T B : Int} {σ u : zS} {a b : Int} (h : zLG G SL OL C T B σ u a) (hab : a ≤ b) : zLG G SL OL C T B σ u b := ⟨h.1, h.2.1, ⟨h.2.2.1.1, by have := h.2.2.1.2; omega⟩, h.2.2.2⟩
/-- one raise of the class -/
def zrsC (σ : zS) (s n : Int) : zS := zup (if 0 < σ 3 8 ∧ σ 3 6 < 1024 then zup (zup (zup σ 25 (σ 3 6) s) 26 (σ 3 6) (σ 22 s)) 3 6 (σ 3 6 + 1) else σ) 22 s (min 999 (σ 22 s + n))
theorem zrsC_g {σ : zS} {s n x : Int} : zrsC σ s n 22 x = if x = s then min 999 (σ 22 s + n) else σ 22 x := by
  unfold zrsC
  rw [zup_at]
  split
  · rfl
  · split
    · rw [zup_ne (by decide), zup_ne (by decide), zup_ne (by decide)]
    · rfl
theorem zrsC_log {σ : zS} {s n : Int} (hT : 0 < σ 3 8) (hu : 0 ≤ σ 3 6 ∧ σ 3 6 < 1024) (hs : 0 ≤ s ∧ s < 1188) : zLG 22 25 26 3 6 1188 σ (zrsC σ s n) 1 := by
  have hg := fun x => zrsC_g (σ := σ) (s := s) (n := n) (x := x)
  have e3 : ∀ j : Int, zrsC σ s n 3 j = if j = 6 then σ 3 6 + 1 else σ 3 j := fun j => by
    unfold zrsC
    rw [zup_ne (by decide), if_pos ⟨hT, hu.2⟩, zup_at, zup_ne (by decide), zup_ne (by decide)]
  have e25 : ∀ j : Int, zrsC σ s n 25 j = if j = σ 3 6 then s else σ 25 j := fun j => by
    unfold zrsC
    rw [zup_ne (by decide), if_pos ⟨hT, hu.2⟩, zup_ne (by decide), zup_ne (by decide), zup_at]
  have e26 : ∀ j : Int, zrsC σ s n 26 j = if j = σ 3 6 then σ 22 s else σ 26 j := fun j => by
    unfold zrsC
    rw [zup_ne (by decide), if_pos ⟨hT, hu.2⟩, zup_ne (by decide), zup_at, zup_ne (by decide)]
  refine ⟨fun k hk => ?_, fun j hj => by rw [e3, if_neg hj], by rw [e3, if_pos rfl]; omega, fun j a b => ?_, fun j a => by rw [e25, e26, if_neg (by omega), if_neg (by omega)]; exact ⟨rfl, rfl⟩, fun lo a b => ?_⟩
  · unfold zrsC
    rw [zup_ne (fun z => hk (by rw [z]; decide)), if_pos ⟨hT, hu.2⟩, zup_ne (fun z => hk (by rw [z]; decide)), zup_ne (fun z => hk (by rw [z]; decide)), zup_ne (fun z => hk (by rw [z]; decide))]
  · rw [e3, if_pos rfl] at b
    rw [e25, if_pos (by omega)]
    exact hs
  · rw [show zrsC σ s n 3 6 = σ 3 6 + 1 by rw [e3, if_pos rfl]]
    exact zund_push (s := s) (fun j hj => by rw [e25, e26, if_neg (by omega), if_neg (by omega)]; exact ⟨rfl, rfl⟩) (by rw [e25, if_pos rfl]) (by rw [e26, if_pos rfl]) (fun x hx => by rw [hg, if_neg hx]) b
/-- one raise of the model -/
def zrsM (σ : zS) (s n : Int) : zS := zup (if 0 < σ 9 20 then zup (zup (zup σ 48 (σ 9 17) s) 49 (σ 9 17) (σ 47 s)) 9 17 (σ 9 17 + 1) else σ) 47 s (min 999 (σ 47 s + n))
theorem zrsM_g {σ : zS} {s n x : Int} : zrsM σ s n 47 x = if x = s then min 999 (σ 47 s + n) else σ 47 x := by
  unfold zrsM
  rw [zup_at]
  split
  · rfl
  · split
    · rw [zup_ne (by decide), zup_ne (by decide), zup_ne (by decide)]
    · rfl
theorem zrsM_log {σ : zS} {s n : Int} (hT : 0 < σ 9 20) (hs : 0 ≤ s ∧ s < 49660) : zLG 47 48 49 9 17 49660 σ (zrsM σ s n) 1 := by
  have hg := fun x => zrsM_g (σ := σ) (s := s) (n := n) (x := x)
  have e3 : ∀ j : Int, zrsM σ s n 9 j = if j = 17 then σ 9 17 + 1 else σ 9 j := fun j => by
    unfold zrsM
    rw [zup_ne (by decide), if_pos hT, zup_at, zup_ne (by decide), zup_ne (by decide)]
  have e25 : ∀ j : Int, zrsM σ s n 48 j = if j = σ 9 17 then s else σ 48 j := fun j => by
    unfold zrsM
    rw [zup_ne (by decide), if_pos hT, zup_ne (by decide), zup_ne (by decide), zup_at]
  have e26 : ∀ j : Int, zrsM σ s n 49 j = if j = σ 9 17 then σ 47 s else σ 49 j := fun j => by
    unfold zrsM
    rw [zup_ne (by decide), if_pos hT, zup_ne (by decide), zup_at, zup_ne (by decide)]
  refine ⟨fun k hk => ?_, fun j hj => by rw [e3, if_neg hj], by rw [e3, if_pos rfl]; omega, fun j a b => ?_, fun j a => by rw [e25, e26, if_neg (by omega), if_neg (by omega)]; exact ⟨rfl, rfl⟩, fun lo a b => ?_⟩
  · unfold zrsM
    rw [zup_ne (fun z => hk (by rw [z]; decide)), if_pos hT, zup_ne (fun z => hk (by rw [z]; decide)), zup_ne (fun z => hk (by rw [z]; decide)), zup_ne (fun z => hk (by rw [z]; decide))]
  · rw [e3, if_pos rfl] at b
    rw [e25, if_pos (by omega)]
    exact hs
  · rw [show zrsM σ s n 9 17 = σ 9 17 + 1 by rw [e3, if_pos rfl]]
    exact zund_push (s := s) (fun j hj => by rw [e25, e26, if_neg (by omega), if_neg (by omega)]; exact ⟨rfl, rfl⟩) (by rw [e25, if_pos rfl]) (by rw [e26, if_pos rfl]) (fun x hx => by rw [hg, if_neg hx]) b
/-- how many of the first n letters are l on row r; how many pairs are a, b -/
def zof (w : Nat → Int) (rc : Nat → Int) (l r : Int) : Nat → Int
  | 0 => 0
  | n + 1 => zof w rc l r n + (if w n = l ∧ rc n = r then 1 else 0)
def zop (w : Nat → Int) (a b : Int) : Nat → Int
  | 0 => 0
  | n + 1 => zop w a b n + (if 0 < n ∧ w (n - 1) = a ∧ w n = b then 1 else 0)
theorem zof_r {w rc : Nat → Int} {l r : Int} : ∀ {n : Nat}, 0 ≤ zof w rc l r n
  | 0 => Int.le_refl _
  | n + 1 => by have := zof_r (w := w) (rc := rc) (l := l) (r := r) (n := n); simp only [zof]; split <;> omega
theorem zop_r {w : Nat → Int} {l r : Int} : ∀ {n : Nat}, 0 ≤ zop w l r n
  | 0 => Int.le_refl _
  | n + 1 => by have := zop_r (w := w) (l := l) (r := r) (n := n); simp only [zop]; split <;> omega
