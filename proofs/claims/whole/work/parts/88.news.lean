/-! new things: arrays, eight rows at once, objects by their constructors -/
theorem zra_inj {U : State} {a b : ClassId} {ty : FieldType} (h : va_RA U a ty) (g : va_RA U b ty) : a = b := by
  cases ty
  case object C =>
    obtain ⟨_, _, _, _, _, h⟩ := h
    obtain ⟨_, _, _, _, _, g⟩ := g
    exact Option.some.inj (Eq.trans (Eq.symm h) g)
  all_goals exact Option.some.inj (Eq.trans (Eq.symm h) g)
def zmO (cO : ClassId) (h i : Nat) : Cell := arrV cO 8 (fun j => if j < i then .ref (h + 1 + j) else .null)
def zmI (cI : ClassId) : Cell := arrV cI 80 (fun _ => .int 0)
def zmS (S : State) (cO cI : ClassId) : Nat → State
  | 0 => S.pushCell (zmO cO S.heap.size 0)
  | i + 1 => ((zmS S cO cI i).pushCell (zmI cI)).setCell S.heap.size (zmO cO S.heap.size (i + 1))
theorem zmO_up (cO : ClassId) (h i : Nat) : (zmO cO h i).setSlot i (.ref (h + 1 + i)) = zmO cO h (i + 1) := by
  unfold zmO
  rw [arrV_store]
  congr 1
  funext j
  unfold updV
  by_cases e : j = i
  · subst e
    rw [if_pos rfl, if_pos (by omega)]
  · rw [if_neg e]
    show (if j < i then Value.ref (h + 1 + j) else Value.null) = _
    by_cases f : j < i
    · rw [if_pos f, if_pos (by omega)]
    · rw [if_neg f, if_neg (by omega)]
/-- what the state is with i rows made -/
theorem zmS_at (S : State) (cO cI : ClassId) : ∀ i : Nat, (zmS S cO cI i).heap.size = S.heap.size + 1 + i ∧ (zmS S cO cI i).heap[S.heap.size]? = some (zmO cO S.heap.size i) ∧ (zmS S cO cI i).vm = S.vm ∧ (zmS S cO cI i).slotsUsed = S.slotsUsed + 8 + 80 * i ∧ (∀ q : Nat, q < S.heap.size → (zmS S cO cI i).heap[q]? = S.heap[q]?) ∧ ∀ j : Nat, j < i → (zmS S cO cI i).heap[S.heap.size + 1 + j]? = some (zmI cI)
  | 0 => by
    have e : (zmS S cO cI 0).heap = S.heap.push (zmO cO S.heap.size 0) := rfl
    refine ⟨by rw [e, Array.size_push], by rw [e]; exact Array.getElem?_push_size, rfl, ?_, fun q hq => ?_, fun j hj => absurd hj (Nat.not_lt_zero j)⟩
    · show S.slotsUsed + (zmO cO S.heap.size 0).slots.size = _
      unfold zmO
      rw [arrV_size]
    · rw [e, Array.getElem?_push, if_neg (Nat.ne_of_lt hq)]
  | i + 1 => by
    obtain ⟨a, b, d, u, o, n⟩ := zmS_at S cO cI i
    have e : (zmS S cO cI (i + 1)).heap = ((zmS S cO cI i).heap.push (zmI cI)).setIfInBounds S.heap.size (zmO cO S.heap.size (i + 1)) := rfl
    refine ⟨by rw [e, Array.size_setIfInBounds, Array.size_push, a]; omega, ?_, d, ?_, fun q hq => ?_, fun j hj => ?_⟩
    · rw [e, Array.getElem?_setIfInBounds, if_pos rfl, if_pos (by rw [Array.size_push, a]; omega)]
    · show (zmS S cO cI i).slotsUsed + (zmI cI).slots.size = _
      unfold zmI
      rw [arrV_size, u]
      omega
    · rw [e, Array.getElem?_setIfInBounds, if_neg (by omega), Array.getElem?_push, if_neg (by rw [a]; omega)]
      exact o q hq
    · rw [e, Array.getElem?_setIfInBounds, if_neg (by omega), Array.getElem?_push, a]
      by_cases f : j = i
      · subst f
        rw [if_pos rfl]
      · rw [if_neg (by omega)]
        exact n j (by omega)
theorem zmS_top (S : State) (f : JFrame) (cO cI : ClassId) : ∀ i : Nat, zmS (S.setTop f) cO cI i = (zmS S cO cI i).setTop f
  | 0 => rfl
  | i + 1 => by
    have ih := zmS_top S f cO cI i
    simp only [zmS, ih, State.heap_setTop, State.pushCell_setTop, State.setCell_setTop]
theorem zmS_heap (S S' : State) (cO cI : ClassId) (h : S.heap = S'.heap) : ∀ i : Nat, (zmS S cO cI i).heap = (zmS S' cO cI i).heap
  | 0 => by
    show S.heap.push _ = S'.heap.push _
    rw [h]
  | i + 1 => by
    have ih := zmS_heap S S' cO cI h i
    show ((zmS S cO cI i).heap.push _).setIfInBounds S.heap.size _ = ((zmS S' cO cI i).heap.push _).setIfInBounds S'.heap.size _
    rw [ih, h]
section ZNEW
variable {E : CtlPost} {e : Env} {d : Bool} {acts : List Action} {S : State}
theorem zm_new {c comp : ClassId} {k : Class} {ty : FieldType} {n : Nat} {v : Value} (hk : S.vm.classes[c]? = some k) (hkind : k.kind = .array comp ty) (h1 : ¬ n > e.platform.arrayLengthLimit) (h2 : ¬ n * componentBytes ty > e.platform.maxHeapBytes) (hf : fits ty v = true) (hd : v.isDefault = true) {Q : Addr → Pre} (r1 : S.heap.size < e.platform.maxCells) (r2 : S.slotsUsed + n ≤ e.platform.maxSlots) (hq : Q S.heap.size d acts (S.pushCell (arrV c n (fun _ => v)))) : wp (Jvm.newArray c n v) Q E e d acts S := by
  rw [← arrV_new] at hq
  have g1 : ∀ i w, (Array.replicate n v)[i]? = some w → S.fitsSlot c .none i w = true := by
    intro i w hw
    rw [Array.getElem?_replicate] at hw
    split at hw
    · cases hw
      simp [State.fitsSlot, State.slotType?, hk, hkind, hf]
    · cases hw
  have g2 : allocActs (Array.replicate n v) S.heap.size acts = acts := by
    unfold allocActs
    rw [if_pos]
    rw [Array.all_replicate]
    split <;> simp [hd]
  simp only [Jvm.newArray, Jvm.arrayFits, wp_bind', W.ask, W.ite, h1, if_false, wp_pure', W.theClass, hk, hkind, h2, W.alloc, W.stop, Option.some.injEq, exists_eq_left', Array.size_replicate, g2]
  rw [if_neg (by omega)]
  exact ⟨r1, r2, g1, hq⟩
/-- the machine's own making of eight rows of eighty ints -/
theorem zm_make {cO cI cc : ClassId} {kO kI : Class} (hO : S.vm.classes[cO]? = some kO) (hOk : kO.kind = .array cI (.array .int)) (hI : S.vm.classes[cI]? = some kI) (hIk : kI.kind = .array cc .int) (hlim : e.platform.arrayLengthLimit = 2147483645) (hbyt : e.platform.maxHeapBytes = 536870912) (r1 : S.heap.size + 9 ≤ e.platform.maxCells) (r2 : S.slotsUsed + 648 ≤ e.platform.maxSlots) {Q : Addr → Pre} (hq : ∀ d' acts', Q S.heap.size d' acts' (zmS S cO cI 8)) : wp (Op.multianewarray.make cO [8, 80]) Q E e d acts S := by
  have e8 : ¬ (8 : Int32) < 0 := by decide
  have e80 : ¬ (80 : Int32) < 0 := by decide
  have n8 : (8 : Int32).toNatClampNeg = 8 := rfl
  have n80 : (80 : Int32).toNatClampNeg = 80 := rfl
  have z8 : ((8 : Int32) == 0) = false := by decide
  rw [Op.multianewarray.make]
  simp only [wp_bind', W.ite, e8, if_false, wp_pure', W.theClass, hO, hOk, Option.some.injEq, exists_eq_left', n8]
  refine zm_new hO hOk (by rw [hlim]; decide) (by rw [hbyt]; decide) rfl rfl (by omega) (by omega) ?_
  simp only [z8, Bool.false_eq_true, if_false, wp_pure', wp_bind', Std.Legacy.Range.forIn_eq_forIn_range']
  show wp (forIn (List.range' 0 8 1) PUnit.unit _) _ E e d acts _
  refine wp_forIn_inv (fun left T => ∃ i : Nat, i ≤ 8 ∧ left = List.range' i (8 - i) ∧ T = zmS S cO cI i) _ _ ⟨0, by omega, rfl, ?_⟩ ?_ ?_
  · show S.pushCell _ = S.pushCell _
    unfold zmO
    congr 2
  · rintro x left T d' acts' Q' ⟨i, hi, hl, rfl⟩ hnext
    have hi8 : i < 8 := by
      rcases Nat.lt_or_ge i 8 with h | h
      · exact h
      · rw [show 8 - i = 0 by omega] at hl
        cases hl
    rw [show 8 - i = (8 - (i + 1)) + 1 by omega, List.range'_succ] at hl
    obtain ⟨rfl, hl⟩ := List.cons.inj hl
    obtain ⟨f1, f2, f3, f4, -, -⟩ := zmS_at S cO cI x
    simp only [wp_bind']
    rw [Op.multianewarray.make]
    simp only [wp_bind', W.ite, e80, if_false, wp_pure', W.theClass, f3, hI, hIk, Option.some.injEq, exists_eq_left', n80]
    refine zm_new (by rw [f3]; exact hI) hIk (by rw [hlim]; decide) (by rw [hbyt]; decide) rfl rfl (by rw [f1]; omega) (by rw [f4]; omega) ?_
    have hlt : S.heap.size < (zmS S cO cI x).heap.size := by rw [f1]; omega
    simp only [wp_bind', W.writeLoc, wp_pure']
    refine ⟨zmO cO S.heap.size x, by show ((zmS S cO cI x).heap.push _)[_]? = _; rw [Array.getElem?_push, if_neg (Nat.ne_of_lt hlt)]; exact f2, by unfold zmO arrV; simp, by unfold zmO; rw [arrV_size]; exact hi8, ?_, hnext _ _ _ ⟨x + 1, by omega, hl, ?_⟩⟩
    · show State.fitsSlot _ cO .none x _ = true
      simp [State.fitsSlot, State.slotType?, f3, hO, hOk, fits]
    · rw [f1, zmO_up]
      rfl
  · rintro T d' acts' ⟨i, hi, hl, rfl⟩
    have hi8 : i = 8 := by
      rcases Nat.lt_or_ge i 8 with h | h
      · rw [show 8 - i = (8 - (i + 1)) + 1 by omega, List.range'_succ] at hl
        cases hl
      · omega
    subst hi8
    exact hq _ _
end ZNEW
theorem zm_over {args : Array Value} {s : State} (h : (Cond.arrayOver (.array .int)).before args s = true) : ∃ (cI cO : ClassId) (k : Class), s.vm.findClass (FieldType.array .int).toString = some cI ∧ s.vm.classes[cO]? = some k ∧ k.kind = .array cI (.array .int) ∧ s.vm.findClass ("[" ++ (FieldType.array .int).toString) = some cO := by
  simp only [Cond.before, Cond.holds, Cond.value, beq_iff_eq] at h
  cases hc : s.vm.findClass (FieldType.array .int).toString with
  | none => simp [hc] at h
  | some cI =>
    simp only [hc, Option.bind_some, Option.bind_eq_some_iff, Option.map_eq_some_iff] at h
    obtain ⟨cO, hi, k, hk, hb⟩ := h
    obtain ⟨hlt, hp, -⟩ := Array.findIdx?_eq_some_iff_getElem.mp hi
    have hkk : s.vm.classes[cO] = k := (Array.getElem?_eq_some_iff.mp hk).2
    rw [hkk] at hp
    cases hkind : k.kind with
    | array comp ty =>
      rw [hkind] at hb hp
      simp at hb hp
      exact ⟨cI, cO, k, rfl, hk, by rw [hkind, hp, hb.1], hb.2⟩
    | _ => rw [hkind] at hb; simp at hb
section ZROW
variable {p : Program} {l : Launch} {e : Env} {R : Room} {s : State} {m : MethodId} {args : Array Value} {below : List Frame} {meth : Method} {c : Code} {H : Heap} {locs : List Loc} {cells slots : Nat} {Q : State → Prop} {cc : ByteArray} {pc : Nat} {ls : Array Slot} {rest : List Value} {T : State}
theorem zm_stand (X : Stand p l e R s m args below meth c T locs cells slots) (cO cI : ClassId) : ∀ i : Nat, Stand p l e R s m args below meth c (zmS T cO cI i) locs (cells + 1 + i) (slots + 8 + 80 * i)
  | 0 => by
    have h := X.pushed (zmO cO T.heap.size 0)
    rw [show (zmO cO T.heap.size 0).slots.size = 8 by unfold zmO; rw [arrV_size]] at h
    exact h
  | i + 1 => by
    have X1 := zm_stand X cO cI i
    obtain ⟨f1, f2, -, -, -, -⟩ := zmS_at T cO cI i
    have hlt : T.heap.size < (zmS T cO cI i).heap.size := by rw [f1]; omega
    have hc : ((zmS T cO cI i).pushCell (zmI cI)).heap[T.heap.size]? = some (zmO cO T.heap.size i) := by
      show ((zmS T cO cI i).heap.push _)[_]? = _
      rw [Array.getElem?_push, if_neg (Nat.ne_of_lt hlt)]
      exact f2
    have h := (X1.pushed (zmI cI)).stored hc i (.ref (T.heap.size + 1 + i))
    rw [zmO_up, show (zmI cI).slots.size = 80 by unfold zmI; rw [arrV_size]] at h
    have h2 := h.dropFresh (fun x hx => by rw [List.mem_singleton.mp hx]; exact X.heapGrown)
    rw [show slots + 8 + 80 * (i + 1) = slots + 8 + 80 * i + 80 by omega]
    exact h2
/-- THE ROW: eight rows of eighty ints -/
theorem zm_mna (hexec : p.tables.exec = Jvm.exec) (hb : c.code = cc) {own : String} {ix : Nat} (hown : s.vm.findClass own = some m.cls) (hcl : (Cond.classLink own ix "[[I").before args s = true) {cO cI : ClassId} (hO : va_RA s cO (.array .int)) (hI : va_RA s cI .int) (hov : ∃ k : Class, s.vm.classes[cO]? = some k ∧ k.kind = .array cI (.array .int)) (har : (Cond.arrayClass .int).before args s = true) (hdg : decode cc pc = .ok (.multianewarray ix 2, 4)) (hcells : cells + 9 ≤ R.cells) (hslots : slots + 648 ≤ R.slots)
    (kk : ∀ (H1 : Heap), H1.size = H.size + 9 → H1[H.size]? = some (zmO cO H.size 8) → (∀ q : Nat, q < H.size → H1[q]? = H[q]?) → (∀ j : Nat, j < 8 → H1[H.size + 1 + j]? = some (zmI cI)) →
      W p l e R s m args below meth c H1 locs (cells + 9) (slots + 648) Q (F0 m (pc + 4) ls (.ref H.size :: rest))) : W p l e R s m args below meth c H locs cells slots Q (F0 m pc ls (.int 80 :: .int 8 :: rest)) := by
  intro T hT X
  subst hT
  subst hb
  have hpl : e.platform.magicAccessors = ({} : Platform).magicAccessors := by rw [X.admits.platform]
  obtain ⟨kO, hkO, hOk⟩ := hov
  obtain ⟨cI', kI, cc', hI', hkI, hIk⟩ := Cond.arrayClass_spec har
  obtain rfl : cI' = cI := Option.some.inj (Eq.trans (Eq.symm hI') hI)
  obtain ⟨c0, hc0, hln⟩ := Cond.classLink_spec hown hcl e.platform hpl
  obtain rfl : cO = c0 := Option.some.inj (Eq.trans (Eq.symm hO) hc0)
  obtain ⟨hg1, hw1, hr1⟩ := State.classEntry (e := e) X.warmed hln
  generalize T.vm.noted m.cls ix (.cls cO) = v1 at hg1 hw1 hr1
  obtain ⟨kO1, hkO1, eO⟩ := hw1.alike.2.2 _ _ hkO
  obtain ⟨kI1, hkI1, eI⟩ := hw1.alike.2.2 _ _ hkI
  have hOk1 : kO1.kind = .array cI' (.array .int) := by rw [eO]; exact hOk
  have hIk1 : kI1.kind = .array cc' .int := by rw [eI]; exact hIk
  have X1 := X.noted hw1
  obtain ⟨r1, r2⟩ := X.roomAbove hcells hslots
  obtain ⟨f1, f2, -, -, f5, f6⟩ := zmS_at (T.setVm v1) cO cI' 8
  obtain ⟨t, a, b⟩ := kk (zmS (T.setVm v1) cO cI' 8).heap f1 f2 f5 f6 (zmS (T.setVm v1) cO cI' 8) rfl (zm_stand X1 cO cI' 8)
  refine ⟨t, ?_, b⟩
  have g1 : (F0 m pc ls (.int 80 :: .int 8 :: rest)).method = m := rfl
  jvm_step X.here [X.here.top, hexec, hdg]
  simp only [Op.multianewarray.sem, wp_bind', W.resolveClassAt_links (State.method?_setTop (F0 m pc ls (.int 80 :: .int 8 :: rest)) X.here.top) hg1]
  rw [W.popN, if_neg (by decide)]
  refine ⟨F0 m pc ls (.int 80 :: .int 8 :: rest), State.topJava?_setTop' (s := T.setVm v1) _ X.here.top, [.int 8, .int 80], rest, rfl, rfl, ?_⟩
  simp only [List.mapM_cons, List.mapM_nil, wp_bind', wp_pure']
  refine zm_make (kO := kO1) (kI := kI1) (cO := cO) (cI := cI') (cc := cc') hkO1 hOk1 hkI1 hIk1 (Launch.admits_arrayLengthLimit X.admits) (Launch.admits_maxHeapBytes X.admits) (by show T.heap.size + 9 ≤ _; exact r1) (by show T.slotsUsed + 648 ≤ _; exact r2) (fun d' acts' => ?_)
  have eS : ((T.setTop (F0 m pc ls (.int 80 :: .int 8 :: rest))).setVm v1).setTop (F0 m pc ls rest) = (T.setVm v1).setTop (F0 m pc ls rest) := by
    show ((T.setVm v1).setTop _).setTop _ = _
    rw [State.setTop_setTop]
  have XF := zm_stand X1 cO cI' 8
  show wp _ _ _ _ _ _ (zmS (((T.setTop (F0 m pc ls (.int 80 :: .int 8 :: rest))).setVm v1).setTop (F0 m pc ls rest)) cO cI' 8)
  rw [eS, zmS_top]
  simp only [wp_bind', W.mark, W.pushRef, State.topJava?_setTop' _ XF.here.top, Option.some.injEq, exists_eq_left', State.setTop_setTop, State.heap_setTop]
  intro acts
  simp [jvm, XF.here.top]
  exact a
end ZROW
