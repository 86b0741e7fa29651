/-! worlds that grow -/
section ZMAKE
variable {p : Program} {l : Launch} {e : Env} {R : Room} {s : State} {m : MethodId} {args : Array Value} {below : List Frame} {meth : Method} {c : Code} {H H0 : Heap} {locs : List Loc} {cells slots : Nat} {Q : State → Prop} {cc : ByteArray} {pc : Nat} {ls : Array Slot} {rest : List Value} {A : Nat → Prop} {D : va_G} {ct : Nat → ClassId} {ws : va_W}
theorem zi_arr (hexec : p.tables.exec = Jvm.exec) (hb : c.code = cc) {atype : ArrayType} (t : Nat) {ty : FieldType} (hty : newarray.typeOf atype = ty) (hct : (ztys ct)[t]? = some (ct t, ty)) (harr : (Cond.arrayClass (newarray.typeOf atype)).before args s = true) (hK : va_K D zcl (ztys ct) s) (hP : va_P D zcl ws H) (hD : va_D A ws) (hS : va_S A H0 H locs) (hA : ∀ q, H0.size ≤ q → A q) {n : Int32} {N' : Nat} {a0 : vp_A} (ha : ∀ cA : ClassId, vp_cell cA a0 = arrV cA N' (fun _ => defaultValue ty)) (hn : ¬ n < 0) (hN : n.toNatClampNeg = N') (hbytes : N' * componentBytes ty ≤ 536870912) (hcells : cells + 1 ≤ R.cells) (hslots : slots + N' ≤ R.slots) (hdg : decode cc pc = .ok (.newarray atype, 2))
    (kk : ∀ (q : Nat) (H1 : Heap), va_P D zcl (ws ++ [(q, .inl (ct t, a0))]) H1 → va_D A (ws ++ [(q, .inl (ct t, a0))]) → va_S A H0 H1 locs → W p l e R s m args below meth c H1 locs (cells + 1) (slots + N') Q (F0 m (pc + 2) ls (.ref q :: rest))) : W p l e R s m args below meth c H locs cells slots Q (F0 m pc ls (.int n :: rest)) := by
  refine va_newa hexec hb harr hty hK hP hD hS hA ha hn hN hbytes hcells hslots hdg (fun q cA H1 hK1 hP1 hD1 hS1 => ?_)
  have ea := zra_inj (hK1.2 4 (cA, ty) rfl).2 (hK.2 t (ct t, ty) hct).2
  subst ea
  exact kk q H1 hP1 hD1 hS1
/-- the cells of eight rows, at q and behind -/
def zrl (ct : Nat → ClassId) (q : Nat) : va_W := (q, .inl (ct 3, 8, .inr (.inr (.inr (.inr (fun j => if j < 8 then some (q + 1 + j) else none)))))) :: (List.range 8).map (fun j => (q + 1 + j, .inl (ct 0, 80, .inl (fun _ => 0))))
theorem zrl_at {q k : Nat} {x : Nat × va_E} (h : (zrl ct q)[k]? = some x) : k < 9 ∧ x.1 = q + k := by
  cases k with
  | zero =>
    cases h
    exact ⟨by omega, rfl⟩
  | succ k =>
    unfold zrl at h
    rw [List.getElem?_cons_succ, List.getElem?_map] at h
    by_cases hk : k < 8
    · rw [List.getElem?_range hk] at h
      cases h
      exact ⟨by omega, by show q + 1 + k = q + (k + 1); omega⟩
    · rw [List.getElem?_eq_none (by rw [List.length_range]; omega)] at h
      cases h
/-- the class of rows is that of arrays of the class of ints' arrays -/
def zGr (ct : Nat → ClassId) (U : State) : Prop := ∃ k : Class, U.vm.classes[ct 3]? = some k ∧ k.kind = .array (ct 0) (.array .int)
theorem zGr.moved {ct : Nat → ClassId} {u U : State} (hvm : u.vm.Alike U.vm) (h : zGr ct u) : zGr ct U := by
  obtain ⟨k, h1, h2⟩ := h
  obtain ⟨k', hk', he⟩ := hvm.2.2 _ _ h1
  exact ⟨k', hk', by rw [he]; exact h2⟩
theorem zi_rows (hexec : p.tables.exec = Jvm.exec) (hb : c.code = cc) {own : String} {ix : Nat} (hown : s.vm.findClass own = some m.cls) (hcl : (Cond.classLink own ix "[[I").before args s = true) (hG : zGr ct s) (har : (Cond.arrayClass .int).before args s = true) (hK : va_K D zcl (ztys ct) s) (hP : va_P D zcl ws H) (hD : va_D A ws) (hS : va_S A H0 H locs) (hA : ∀ q, H0.size ≤ q → A q) (hcells : cells + 9 ≤ R.cells) (hslots : slots + 648 ≤ R.slots) (hdg : decode cc pc = .ok (.multianewarray ix 2, 4))
    (kk : ∀ (q : Nat) (H1 : Heap), va_P D zcl (ws ++ zrl ct q) H1 → va_D A (ws ++ zrl ct q) → va_S A H0 H1 locs → W p l e R s m args below meth c H1 locs (cells + 9) (slots + 648) Q (F0 m (pc + 4) ls (.ref q :: rest))) : W p l e R s m args below meth c H locs cells slots Q (F0 m pc ls (.int 80 :: .int 8 :: rest)) := by
  refine zm_mna hexec hb hown hcl (hK.2 3 (ct 3, .array .int) rfl).2 (hK.2 0 (ct 0, .int) rfl).2 hG har hdg hcells hslots (fun H1 z1 h0 ho hj => ?_)
  have hlt : ∀ (k : Nat) (x : Nat × va_E), ws[k]? = some x → x.1 < H.size := fun k x hx => (hP k x hx).lt
  refine kk H.size H1 ((hP.kept (fun k x hx => ho x.1 (hlt k x hx))).app (fun k x hk => ?_)) (hD.app ⟨fun i j x y hx hy hxy => ?_, fun k x hk => ?_⟩ (fun i j x y hx hy hxy => ?_)) ⟨by rw [z1]; exact Nat.le_trans hS.1 (by omega), fun q q1 q2 => (ho q (Nat.lt_of_lt_of_le q1 hS.1)).trans (hS.2.1 q q1 q2), hS.2.2⟩
  · cases k with
    | zero =>
      cases hk
      show H1[H.size]? = some (vp_cell _ _)
      rw [h0, vp_cell_q]
      unfold zmO
      congr 2
      funext j
      by_cases hj8 : j < 8
      · rw [if_pos hj8, if_pos hj8]
        rfl
      · rw [if_neg hj8, if_neg hj8]
        rfl
    | succ k =>
      have hk9 := (zrl_at hk).1
      unfold zrl at hk
      rw [List.getElem?_cons_succ, List.getElem?_map, List.getElem?_range (by omega)] at hk
      cases hk
      show H1[H.size + 1 + k]? = some (vp_cell _ _)
      rw [hj k (by omega)]
      rfl
  · have h1 := (zrl_at hx).2
    have h2 := (zrl_at hy).2
    omega
  · exact hA _ (Nat.le_trans hS.1 (by rw [(zrl_at hk).2]; omega))
  · have h1 := hlt _ _ hx
    have h2 := (zrl_at hy).2
    omega
end ZMAKE
/-- A CONSTRUCTOR'S CONTRACT: what becomes of the fields, which cells come -/
def zCt (y : MethodName) (code : ByteArray) (ci : Nat) (fs0 : List Value) (rm : Room) (mc ms : Nat) (Post : (Nat → ClassId) → Nat → List Value → va_W → Prop) : Prop :=
  ∀ (l : Launch) (D : va_G) (ct : Nat → ClassId) (h0 sz : Nat), Met l y (Cond.code y code 1 none :: zTB) rm (va_Pc [.ref h0] (fun U => U.heap.size = sz ∧ va_P D zcl [(h0, .inr (ci, fs0))] U.heap ∧ va_K D zcl (ztys ct) U ∧ va_D (fun _ => True) [(h0, .inr (ci, fs0))] ∧ zNw U ∧ zGr ct U)) (va_Qv (fun _ : Unit => True) (fun _ t => ∃ (fs : List Value) (ex : va_W), Post ct h0 fs ex ∧ va_P D zcl ((h0, .inr (ci, fs)) :: ex) t.heap ∧ va_K D zcl (ztys ct) t ∧ va_D (va_A [(h0, .inr (ci, fs0))] sz) ((h0, .inr (ci, fs)) :: ex)) (va_A [(h0, .inr (ci, fs0))] sz)) mc ms (va_A [(h0, .inr (ci, fs0))] sz)
/-- what holds at a constructor's entry -/
def zCx (y : MethodName) (code : ByteArray) (ci : Nat) (fs0 : List Value) (D : va_G) (ct : Nat → ClassId) (h0 : Nat) (A : Nat → Prop) (p : Program) (s : State) (m : MethodId) (meth : Method) (c : Code) (ls : Array Slot) : Prop :=
  p.tables.exec = Jvm.exec ∧ c.code = code ∧ c.maxLocals = 1 ∧ s.vm.findClass y.cls = some m.cls ∧ (∀ w ∈ zTB, w.before #[.ref h0] s = true) ∧ meth.name = "<init>" ∧ va_K D zcl (ztys ct) s ∧ (∀ q, s.heap.size ≤ q → A q) ∧ va_P D zcl [(h0, .inr (ci, fs0))] s.heap ∧ va_D A [(h0, .inr (ci, fs0))] ∧ va_S A s.heap s.heap [] ∧ lv_has ls 1 [(0, .ref h0)] ∧ zNw s ∧ zGr ct s
/-- its end -/
def zCe (code : ByteArray) (ci mc ms : Nat) (Post : (Nat → ClassId) → Nat → List Value → va_W → Prop) (D : va_G) (ct : Nat → ClassId) (h0 : Nat) (A : Nat → Prop) (p : Program) (l : Launch) (e : Env) (rm : Room) (s : State) (m : MethodId) (below : List Frame) (meth : Method) (c : Code) (ls : Array Slot) (Q : State → Prop) : Prop :=
  ∀ (fs : List Value) (ex : va_W) (H : Heap) (locs : List Loc) (cells slots pc : Nat), Post ct h0 fs ex → va_P D zcl ((h0, .inr (ci, fs)) :: ex) H → va_D A ((h0, .inr (ci, fs)) :: ex) → va_S A s.heap H locs → cells ≤ mc → slots ≤ ms → decode code pc = .ok (.return_, 1) → W p l e rm s m #[.ref h0] below meth c H locs cells slots Q (F0 m pc ls [])
theorem zct_of {y : MethodName} {code : ByteArray} {ci : Nat} {fs0 : List Value} {rm : Room} {mc ms : Nat} {Post : (Nat → ClassId) → Nat → List Value → va_W → Prop} (hy : plainName y.cls = true) (hn : y.name = "<init>")
    (body : ∀ (p : Program) (l : Launch) (e : Env) (s : State) (m : MethodId) (below : List Frame) (meth : Method) (c : Code) (D : va_G) (ct : Nat → ClassId) (h0 : Nat) (A : Nat → Prop) (ls : Array Slot) (Q : State → Prop), zCx y code ci fs0 D ct h0 A p s m meth c ls → zCe code ci mc ms Post D ct h0 A p l e rm s m below meth c ls Q → W p l e rm s m #[.ref h0] below meth c s.heap [] 0 0 Q (F0 m 0 ls [])) : zCt y code ci fs0 rm mc ms Post := by
  intro l D ct h0 sz
  refine Met.ofW (cc := code) (maxL := 1) (ret := none) hy rfl ?_
  intro p e s m args below meth c s₁ B hml hv
  obtain ⟨rfl, hsz, hP, hK, hD0, hN, hG⟩ := hv
  have hx := B.exec
  have hb := B.bytes
  have hr := B.returns
  have hts0 := atoms_spec (ws := Cond.code y code 1 none :: zTB) B.pre
  have hown : s.vm.findClass y.cls = some m.cls := findClass_of_methodNamed B.named
  have hlocks := B.notSynchronized
  have hin : meth.name = "<init>" := (name_of_methodNamed B.named B.method).1.trans hn
  subst hsz
  have hD := hD0.self (sz := s.heap.size)
  have hl := lv_entry ([.ref h0]) (n := 1) (Nat.le_of_ble_eq_true rfl)
  rw [lg_entry_eq]
  generalize (lg_sl ([.ref h0]) ++ List.replicate (1 - (lg_sl ([.ref h0])).length) Slot.unset).toArray = ls at hl ⊢
  refine body p l e s m below meth c D ct h0 (va_A [(h0, .inr (ci, fs0))] s.heap.size) ls _ ⟨hx, hb, hml, hown, fun w hw => hts0 w (List.mem_cons_of_mem _ hw), hin, hK, fun q hq => Or.inr hq, hP, hD, va_S.rf, hl, hN, hG⟩ ?_
  intro fs ex H locs cells slots pc hPost hP1 hD1 hS1 h1 h2 hdg
  refine W.widen h1 h2 ?_
  exact W.vret hx hb hr (fun t ht hW => ⟨⟨(), rfl, trivial, fs, ex, hPost, by rw [ht]; exact hP1, va_K.moved hW.alike hK, hD1⟩, hS1.F ht⟩) hS1.2.2 hdg
theorem zgood {y : MethodName} {code : ByteArray} (h : Cond.code y code 1 none ∈ zTB) : GoodIn zTB (Cond.code y code 1 none :: zTB) := fun w hw => by
  have h1 : w ∈ zTB := by
    rcases List.mem_cons.mp hw with rfl | hw
    · exact h
    · exact hw
  exact ⟨h1, good_of_word (zTB_good w h1)⟩
section ZOBJ
variable {p : Program} {l : Launch} {e : Env} {R : Room} {s : State} {m : MethodId} {args : Array Value} {below : List Frame} {meth : Method} {c : Code} {H H0 : Heap} {locs : List Loc} {cells slots : Nat} {Q : State → Prop} {cc : ByteArray} {pc : Nat} {ls : Array Slot} {rest : List Value} {A : Nat → Prop} {D : va_G} {ct : Nat → ClassId} {ws : va_W}
/-- 'new C()': the object, and what its constructor makes -/
theorem zi_obj {y : MethodName} {code : ByteArray} {ci : Nat} {fs0 : List Value} {rm : Room} {mc ms : Nat} {Post : (Nat → ClassId) → Nat → List Value → va_W → Prop} (hCt : zCt y code ci fs0 rm mc ms Post) {C own : String} {T : u_T} {N nL : Nat} {ty0 : Nat → FieldType} {ix iy : Nat}
    (hexec : p.tables.exec = Jvm.exec) (hb : c.code = cc) (hml : c.maxLocals = nL) (hls : ls.size = nL) (hown : s.vm.findClass own = some m.cls) (hts : ∀ w ∈ zTB, w.before args s = true)
    (hu : ∀ w ∈ u_ws C T N, w ∈ zTB) (hty0 : ∀ k, k < N → parseFieldDescriptor (T k).2.2.1 = some (ty0 k)) (hcl : Cond.classLink own ix C ∈ zTB) (hin : Cond.instantiable C N ∈ zTB) (hini : Cond.initialized C ∈ zTB) (hzc : zcl[ci]? = some (C, T, N)) (hfs0 : ∀ j, j < N → defaultValue (ty0 j) = vp_V fs0 j)
    (hy : y.cls = C) (hyn : y.name = "<init>") (hcode : Cond.code y code 1 none ∈ zTB) (hlink : Cond.methodLink own iy y ∈ zTB ∨ Cond.methodLinkNest own iy y "PenLines" ∈ lw_tbl) (hinst : Cond.instanceMethod y ∈ zTB) (hnm : y.cls ≠ "java/lang/invoke/MethodHandle" ∧ y.cls ≠ "java/lang/invoke/VarHandle" ∧ (parseMethodDescriptor y.desc).map (fun d => d.parameters.length) = some 0)
    (hR : rm.frames + 1 ≤ R.frames ∧ 8 + (1 + 11) + rm.locals ≤ R.locals) (hrc : rm.cells = mc) (hrs : rm.slots = ms)
    (hK : va_K D zcl (ztys ct) s) (hN : zNw s) (hG : zGr ct s) (hP : va_P D zcl ws H) (hD : va_D A ws) (hS : va_S A H0 H locs) (hA : ∀ q, H0.size ≤ q → A q) (hcells : cells + 1 + mc ≤ R.cells) (hslots : slots + N + ms ≤ R.slots) (hst : (rest.map fun v => v.category).sum ≤ 7)
    (d1 : decode cc pc = .ok (.new ix, 3)) (d2 : decode cc (pc + 3) = .ok (.dup, 1)) (d3 : decode cc (pc + 3 + 1) = .ok (.invokespecial iy, 3))
    (kk : ∀ (q : Nat) (fs : List Value) (ex : va_W) (H1 : Heap) (locs1 : List Loc), Post ct q fs ex → va_P D zcl (ws ++ ((q, .inr (ci, fs)) :: ex)) H1 → va_D A (ws ++ ((q, .inr (ci, fs)) :: ex)) → va_S A H0 H1 locs1 → W p l e R s m args below meth c H1 locs1 (cells + 1 + mc) (slots + N + ms) Q (F0 m (pc + 3 + 1 + 3) ls (.ref q :: rest))) : W p l e R s m args below meth c H locs cells slots Q (F0 m pc ls rest) := by
  subst hy
  refine va_new (ci := ci) (fs := fs0) (C := y.cls) (T := T) (N := N) hexec hb hts hu ty0 hty0 hown (hts _ hcl) (hts _ hin) (hts _ hini) hK hP hD hS hA hzc hfs0 (by omega) (by omega) d1 (fun q H1 hP1 hD1 hS1 => ?_)
  refine lv_dup hexec hb d2 rfl ?_
  have hat : (ws ++ [(q, (.inr (ci, fs0) : va_E))])[ws.length]? = some (q, .inr (ci, fs0)) := by
    rw [List.getElem?_append_right (Nat.le_refl _), Nat.sub_self]
    rfl
  have hleft : ∀ {k : Nat} {x : Nat × va_E}, ws[k]? = some x → (ws ++ [(q, (.inr (ci, fs0) : va_E))])[k]? = some x := fun {k x} hx => by
    rw [List.getElem?_append_left (List.getElem?_eq_some_iff.mp hx).1]
    exact hx
  have hPc : va_P D zcl [(q, .inr (ci, fs0))] H1 := hP1.sub [ws.length] (by simp only [List.filterMap_cons, List.filterMap_nil, hat])
  have hDc : va_D A [(q, .inr (ci, fs0))] := hD1.sub [ws.length] rfl (by simp only [List.map_cons, List.map_nil, hat])
  have hFc := va_free (wc := [(q, .inr (ci, fs0))]) hD1 hS1 hA [ws.length] (by simp only [List.map_cons, List.map_nil, hat])
  refine va_callv (hlink.elim (fun hk9 => va_runI (As := []) (rest := .ref q :: rest) ⟨hexec, hb, hml, hown, hts⟩ (hCt l D ct q H1.size) (cwI 0 hts (zgood hcode) rfl hrc hrs (hts _ hini) (hts _ hk9) (hts _ hinst) hyn hnm hR) ⟨fun a U g mk z => by obtain ⟨q0, q1, qP, qK, qD, qN, qG⟩ := z; exact ⟨q0, q1, qP, va_K.moved (u := U) (U := U.calling g mk a) (Vm.Alike.refl U.vm) qK, qD, zNw.same (u := U) rfl qN, zGr.moved (u := U) (U := U.calling g mk a) (Vm.Alike.refl U.vm) qG⟩, fun U hU hW => ⟨rfl, by rw [hU], by rw [hU]; exact hPc, va_K.moved hW.alike hK, hDc.weaken (fun _ _ _ _ => trivial), hN.warm hW, hG.moved hW.alike⟩⟩ rfl rfl hls rfl (lv_room (by show 1 + (rest.map fun v => v.category).sum ≤ 8; omega)) d3 ⟨hcells, hslots⟩) (fun hk9 => va_runIN (As := []) (rest := .ref q :: rest) ⟨hexec, hb, hml, hown, hts⟩ (hCt l D ct q H1.size) ⟨va_cnB 0 hts (zgood hcode) rfl hrc hrs (hN _ hk9 rfl) (hts _ hini) hnm hR, hyn, hts _ hinst⟩ ⟨fun a U g mk z => by obtain ⟨q0, q1, qP, qK, qD, qN, qG⟩ := z; exact ⟨q0, q1, qP, va_K.moved (u := U) (U := U.calling g mk a) (Vm.Alike.refl U.vm) qK, qD, zNw.same (u := U) rfl qN, zGr.moved (u := U) (U := U.calling g mk a) (Vm.Alike.refl U.vm) qG⟩, fun U hU hW => ⟨rfl, by rw [hU], by rw [hU]; exact hPc, va_K.moved hW.alike hK, hDc.weaken (fun _ _ _ _ => trivial), hN.warm hW, hG.moved hW.alike⟩⟩ rfl rfl hls rfl (lv_room (by show 1 + (rest.map fun v => v.category).sum ≤ 8; omega)) d3 ⟨hcells, hslots⟩)) hS1 (fun q _ h => hFc q h) hFc (fun u t H2 locs2 ht hvm hw hB hz1 hk1 hS2 => ?_)
  obtain ⟨fs, ex, hPost, hP2, -, hD2⟩ := hB
  rw [ht] at hP2
  have hlt : ∀ (k : Nat) (x : Nat × va_E), ws[k]? = some x → x.1 < H1.size := fun k x hx => (hP1 k x (hleft hx)).lt
  have hne : ∀ (k : Nat) (x : Nat × va_E), ws[k]? = some x → ¬ va_A [(q, (.inr (ci, fs0) : va_E))] H1.size x.1 := fun k x hx => by
    rintro (⟨j, y2, hj⟩ | h)
    · have hj0 : j = 0 := by
        have := (List.getElem?_eq_some_iff.mp hj).1
        simpa using this
      subst hj0
      cases hj
      have := hD1.1 k ws.length x (x.1, .inr (ci, fs0)) (hleft hx) hat rfl
      have := (List.getElem?_eq_some_iff.mp hx).1
      omega
    · have := hlt k x hx
      omega
  have hw1 : va_P D zcl ws H1 := fun k x hx => hP1 k x (hleft hx)
  have hd1 : va_D A ws := ⟨fun i j x y hi hj hxy => hD1.1 i j x y (hleft hi) (hleft hj) hxy, fun k x hx => hD1.2 k x (hleft hx)⟩
  exact kk q fs ex H2 locs2 hPost ((hw1.kept (fun k x hx => hk1 x.1 (hlt k x hx) (hne k x hx))).app hP2) (hd1.app (hD2.weaken (fun k x _ hx => hFc x.1 hx)) (fun i j x y hi hj hxy => hne i x hi (by rw [hxy]; exact hD2.2 j y hj))) hS2
end ZOBJ
