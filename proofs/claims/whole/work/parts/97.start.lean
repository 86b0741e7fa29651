/-! the law's start: what the tables say of the classes -/
theorem zl_int : Cond.arrayOver (.array .int) ∈ lw_tbl := List.mem_of_getElem? (i := 83) (by decide +kernel)
theorem zl_cl {args : Array Value} {s : State} (ht : ∀ w ∈ zTB, w.before args s = true) (c : Nat) : ∃ (d : ClassId) (f : Nat → Nat), ∀ q : vw_C, zcl[c]? = some q → u_Kn s q.1 q.2.1 q.2.2 d f := by
  match c with
  | 0 =>
    obtain ⟨cC, iS, h⟩ := u_known ht hi_X0 (ht (.instantiable RX0 9) (zin 158 (by decide +kernel) (by decide +kernel)))
    exact ⟨cC, iS, fun q hq => by cases hq; exact h⟩
  | 1 =>
    obtain ⟨cC, iS, h⟩ := u_known ht hi_X1 (ht (.instantiable RX1 2) (zin 224 (by decide +kernel) (by decide +kernel)))
    exact ⟨cC, iS, fun q hq => by cases hq; exact h⟩
  | 2 =>
    obtain ⟨cC, iS, h⟩ := u_known ht hi_X2 (ht (.instantiable RX2 12) (zin 104 (by decide +kernel) (by decide +kernel)))
    exact ⟨cC, iS, fun q hq => by cases hq; exact h⟩
  | 3 =>
    obtain ⟨cC, iS, h⟩ := u_known ht hi_X3 (ht (.instantiable RX3 3) (zin 275 (by decide +kernel) (by decide +kernel)))
    exact ⟨cC, iS, fun q hq => by cases hq; exact h⟩
  | 4 =>
    obtain ⟨cC, iS, h⟩ := u_known ht hi_X4 (ht (.instantiable RX4 5) (zin 239 (by decide +kernel) (by decide +kernel)))
    exact ⟨cC, iS, fun q hq => by cases hq; exact h⟩
  | 5 =>
    obtain ⟨cC, iS, h⟩ := u_known ht hi_X5 (ht (.instantiable RX5 4) (zin 77 (by decide +kernel) (by decide +kernel)))
    exact ⟨cC, iS, fun q hq => by cases hq; exact h⟩
  | 6 =>
    obtain ⟨cC, iS, h⟩ := u_known ht hi_X6 (ht (.instantiable RX6 2) (zin 261 (by decide +kernel) (by decide +kernel)))
    exact ⟨cC, iS, fun q hq => by cases hq; exact h⟩
  | 7 =>
    obtain ⟨cC, iS, h⟩ := u_known ht hi_X7 (ht (.instantiable RX7 4) (zin 198 (by decide +kernel) (by decide +kernel)))
    exact ⟨cC, iS, fun q hq => by cases hq; exact h⟩
  | 8 =>
    obtain ⟨cC, iS, h⟩ := u_known ht hi_X8 (ht (.instantiable RX8 12) (zin 69 (by decide +kernel) (by decide +kernel)))
    exact ⟨cC, iS, fun q hq => by cases hq; exact h⟩
  | 9 =>
    obtain ⟨cC, iS, h⟩ := u_known ht hi_X9 (ht (.instantiable RX9 39) (zin 772 (by decide +kernel) (by decide +kernel)))
    exact ⟨cC, iS, fun q hq => by cases hq; exact h⟩
  | n + 10 =>
    obtain ⟨cC, iS, h⟩ := u_known ht hi_X0 (ht (.instantiable RX0 9) (zin 158 (by decide +kernel) (by decide +kernel)))
    exact ⟨cC, iS, fun q hq => absurd (List.getElem?_eq_some_iff.mp hq).1 (by show ¬ n + 10 < 10; omega)⟩
theorem zl_K {args : Array Value} {s : State} (hts : ∀ w ∈ lw_tbl, w.before args s = true) : ∃ (D : va_G) (ct : Nat → ClassId), va_K D zcl (ztys ct) s ∧ zGr ct s := by
  have ht : ∀ w ∈ zTB, w.before args s = true := fun w hw => hts w (zTB_lw w hw)
  obtain ⟨c0, k0, p0, a0, b0, d0⟩ := Cond.arrayClass_spec (ht _ ha_int)
  obtain ⟨c1, k1, p1, a1, b1, d1⟩ := Cond.arrayClass_spec (ht _ ha_boolean)
  obtain ⟨c2, k2, p2, a2, b2, d2⟩ := Cond.arrayClass_spec (ht _ ha_long)
  obtain ⟨cI, c3, k3, e3, b3, d3, a3⟩ := zm_over (hts _ zl_int)
  have e0 : cI = c0 := Option.some.inj (Eq.trans (Eq.symm e3) a0)
  refine ⟨(fun c => Classical.choose (zl_cl ht c), fun c => Classical.choose (Classical.choose_spec (zl_cl ht c))), fun t => (match t with | 0 => c0 | 1 => c1 | 2 => c2 | _ => c3), ⟨fun c q hq => Classical.choose_spec (Classical.choose_spec (zl_cl ht c)) q hq, fun k q hk => ?_⟩, ⟨k3, b3, by rw [← e0]; exact d3⟩⟩
  match k with
  | 0 => cases hk; exact ⟨fun n z => ⟨fun k h => (by cases h), k0, b0, p0, d0⟩, a0⟩
  | 1 => cases hk; exact ⟨fun n z => ⟨fun k h => (by cases h), k1, b1, p1, d1⟩, a1⟩
  | 2 => cases hk; exact ⟨fun n z => ⟨fun k h => (by cases h), k2, b2, p2, d2⟩, a2⟩
  | 3 => cases hk; exact ⟨fun n z => ⟨fun k h => (by cases h), k3, b3, cI, d3⟩, a3⟩
  | n + 4 => exact absurd (List.getElem?_eq_some_iff.mp hk).1 (by show ¬ n + 4 < 4; omega)
theorem zl_N {args : Array Value} {s : State} (hts : ∀ w ∈ lw_tbl, w.before args s = true) : zNw s := fun w hw hn => va_Nw.of (by cases w <;> first | rfl | exact absurd (show false = true from hn) Bool.false_ne_true) (hts w hw)
theorem dL_law_0 : decode cL_law 0 = .ok (.new 7, 3) := by decide +kernel
theorem dL_law_3 : decode cL_law 3 = .ok (.dup, 1) := by decide +kernel
theorem dL_law_4 : decode cL_law 4 = .ok (.invokespecial 9, 3) := by decide +kernel
theorem dL_law_7 : decode cL_law 7 = .ok (.astore_n 1, 1) := by decide +kernel
theorem dL_law_8 : decode cL_law 8 = .ok (.new 10, 3) := by decide +kernel
theorem dL_law_11 : decode cL_law 11 = .ok (.dup, 1) := by decide +kernel
theorem dL_law_12 : decode cL_law 12 = .ok (.invokespecial 12, 3) := by decide +kernel
theorem dL_law_15 : decode cL_law 15 = .ok (.astore_n 2, 1) := by decide +kernel
theorem dL_law_16 : decode cL_law 16 = .ok (.iconst 0, 1) := by decide +kernel
theorem dL_law_17 : decode cL_law 17 = .ok (.istore_n 3, 1) := by decide +kernel
/-! THE CLAIM OUT OF ONE WALK OF THE LAW'S BODY. Your part is whole_start (and what it stands on); all else here is the same for every law, but numbers. -/
def R_law : String := "PenLinesLaw"
def lw_P (b : Addr) (xs : List Int32) (args : Array Value) (s : State) : Prop := args = #[.ref b] ∧ s.IntsAt b xs ∧ xs.length ≤ 3584 ∧ (Jvm.Cond.and given_1 narrow_1).before args s = true
def lw_Q (_ : Array Value) (s : State) (o : Outcome) (t : State) : Prop := o = .returned (some (.int 1)) ∧ Framed s o t [] 600000 7302250
def lw_Z (below : List Frame) (a : Array Value) (s : State) : State → Prop := fun t => ∃ o, t.status = .running ∧ Ended t below o ∧ lw_Q a s o t
/-- the law's own end, with 1 on the stack, nothing written that was there before, its room as the claim has it -/
theorem lw_ret {p : Program} {l : Launch} {e : Env} {s : State} {m : MethodId} {below : List Frame} {meth : Method} {c : Code} {b : Nat} (hx : p.tables.exec = Jvm.exec) (hb : c.code = code) (hr : meth.sig.returnType = ret) (hlocks : meth.locks = false) {pc : Nat} {H : Heap} {ls : Array Slot} (hdg : decode code pc = .ok (.ireturn, 1)) : W p l e room_1 s m #[Value.ref b] below meth c H [] 600000 7302250 (lw_Z below #[Value.ref b] s) (F0 m pc ls [.int 1]) := by
  intro T hT X
  obtain ⟨fs, hret, hrun, hended, hW, hframe⟩ := X.leave (v := some (.int 1)) (hlocks := hlocks) (fun h => by rw [hr] at h; cases h)
  have hmeth' : T.vm.method? m = some meth := X.method'
  refine ⟨T.setFrames fs, ?_, .returned (some (.int 1)), hrun, hended, rfl, ⟨_, rfl⟩, hW, hframe⟩
  jvm_step X.here [X.here.top, hx, hb, hdg, hmeth', hr, ret, narrow_b1]
  (try refine ⟨rfl, ?_⟩); (try refine ⟨rfl, ?_⟩)
  first | (intro acts; rw [hret _ acts rfl rfl rfl]) | rw [hret _ _ rfl rfl rfl]
  exact Steps.refl _
/-- what holds at the law's entry: the machine, the code, the tables' words (any of lw_tbl by 'hts w (by decide +kernel)'), the script of L ints xs at the cell b, what the Statement gives of the start (any of its parts by flat_of_before) -/
def lw_At (p : Program) (s : State) (m : MethodId) (meth : Method) (c : Code) (b L : Nat) (xs : Nat → Int32) : Prop :=
  p.tables.exec = Jvm.exec ∧ c.code = code ∧ meth.sig.returnType = ret ∧ c.maxLocals = 4 ∧ s.vm.findClass R_law = some m.cls ∧ (∀ w ∈ lw_tbl, w.before #[Value.ref b] s = true) ∧ va_X b L xs s s.heap ∧ b < s.heap.size ∧ meth.locks = false ∧ (Jvm.Cond.and given_1 narrow_1).before #[Value.ref b] s = true
theorem zl_len {L : Nat} (h : L ≤ 3584) : (0 : Int) ≤ (L : Int) ∧ (L : Int) ≤ 3584 := by omega
theorem zS0_wf : zWF zS0 := fun k i => by
  have h : zI (zS0 k i) := by
    unfold zS0 zI
    split
    · decide
    · split
      · decide
      · split <;> decide
  exact ⟨by unfold zI at h; unfold zJ; omega, fun _ => h⟩
set_option maxHeartbeats 4000000 in
set_option maxRecDepth 100000 in
/-- from behind the constructors on: the quiet machine -/
theorem zl_run {p : Program} {e : Env} {s : State} {m : MethodId} {below : List Frame} {meth : Method} {c : Code} (l : Launch) {b L : Nat} {xs : Nat → Int32} (hL : L ≤ 3584) (C0 : lw_At p s m meth c b L xs) {D : va_G} {ct : Nat → ClassId} (hK : va_K D zcl (ztys ct) s) (hN : zNw s) {ad : Nat → Nat} (hb9 : ad 1000 = b) {H : Heap} {locs : List Loc} {ls : Array Slot} {cells slots : Nat} (h1 : cells ≤ 600000) (h2 : slots ≤ 7302250) (hP : va_P D zcl (zwl ad ct zS0) H) (hD : va_D (fun q => s.heap.size ≤ q) (zwl ad ct zS0)) (hS : va_S (fun q => s.heap.size ≤ q) s.heap H locs) (lo : zLo ad ls 4 [some (.inr (.inr (1000, 0))), some (.inr (.inr (0, 0))), some (.inr (.inr (9, 0))), some (.inl 0)]) : W p l e room_1 s m #[Value.ref b] below meth c H locs cells slots (lw_Z below #[Value.ref b] s) (F0 m 18 ls []) := by
  obtain ⟨hx, hb, hr, hml, hown, hts0, hX, hbl, hlocks, hgv⟩ := C0
  have hts : ∀ w ∈ zTB, w.before #[Value.ref b] s = true := fun w hw => hts0 w (zTB_lw w hw)
  have hrun := lp_law (X := ((L : Int), fun j : Int => (xs j.toNat).toInt)) (zl_len hL) 4000 0 0 zS0 (by omega) (by omega) zRel_0
  have hq : zq 159 = room_1 := rfl
  have hgo := hrun zS0_wf (fun k v hk => ?_) (fun _ h => absurd h List.not_mem_nil) p l e s m #[Value.ref b] below meth c D ad ct (fun q => s.heap.size ≤ q) H locs ls cells slots (lw_Z below #[Value.ref b] s) ⟨hx, hb, hml, hown, hts, hK, hN, fun q h => h, h1, h2, fun _ => ⟨L, xs, by rw [hb9]; exact hX, by rw [hb9]; exact hbl, by rw [hb9]; omega, rfl, hL, fun j hj => rfl⟩⟩ ?_ ⟨hP, hD, hS⟩ lo
  · exact hgo
  · match k with
    | 0 => cases hk; exact fun h => absurd h (by decide)
    | 1 => cases hk; exact fun h => absurd h (by decide)
    | 2 => cases hk; exact fun h => absurd h (by decide)
    | 3 => cases hk; exact ⟨by decide, by decide⟩
    | n + 4 => simp [znth] at hk
  · intro v u H1 locs1 ls1 pc1 hR hwu hrok wo1 hdec
    subst hR
    exact va_forget wo1.2.2.2.2 (W.widen h1 h2 (lw_ret hx hb hr hlocks hdec))
