/-! the constructors -/
theorem hi_X0 : ∀ w ∈ u_ws RX0 TX0 9, w ∈ zTB := by decide +kernel
theorem hi_X1 : ∀ w ∈ u_ws RX1 TX1 2, w ∈ zTB := by decide +kernel
theorem hi_X2 : ∀ w ∈ u_ws RX2 TX2 12, w ∈ zTB := by decide +kernel
theorem hi_X3 : ∀ w ∈ u_ws RX3 TX3 3, w ∈ zTB := by decide +kernel
theorem hi_X4 : ∀ w ∈ u_ws RX4 TX4 5, w ∈ zTB := by decide +kernel
theorem hi_X5 : ∀ w ∈ u_ws RX5 TX5 4, w ∈ zTB := by decide +kernel
theorem hi_X6 : ∀ w ∈ u_ws RX6 TX6 2, w ∈ zTB := by decide +kernel
theorem hi_X7 : ∀ w ∈ u_ws RX7 TX7 4, w ∈ zTB := by decide +kernel
theorem hi_X8 : ∀ w ∈ u_ws RX8 TX8 12, w ∈ zTB := by decide +kernel
theorem hi_X9 : ∀ w ∈ u_ws RX9 TX9 39, w ∈ zTB := by decide +kernel
theorem ho_inst : Cond.instanceMethod objectInit ∈ zTB := zin 74 (by decide +kernel) (by decide +kernel)
theorem ho_code : Cond.code objectInit ⟨#[0xb1]⟩ 1 none ∈ zTB := zin 75 (by decide +kernel) (by decide +kernel)
theorem ha_int : Cond.arrayClass .int ∈ zTB := zin 102 (by decide +kernel) (by decide +kernel)
theorem ha_boolean : Cond.arrayClass .boolean ∈ zTB := zin 101 (by decide +kernel) (by decide +kernel)
theorem ha_long : Cond.arrayClass .long ∈ zTB := zin 222 (by decide +kernel) (by decide +kernel)
abbrev cX0_init : ByteArray := prog_2_method_1_code
def yX0_init : MethodName := ⟨RX0, "<init>", "()V"⟩
theorem dX0_init_0 : decode cX0_init 0 = .ok (.aload_n 0, 1) := by decide +kernel
theorem dX0_init_1 : decode cX0_init 1 = .ok (.invokespecial 3, 3) := by decide +kernel
theorem dX0_init_4 : decode cX0_init 4 = .ok (.aload_n 0, 1) := by decide +kernel
theorem dX0_init_5 : decode cX0_init 5 = .ok (.sipush 1188, 3) := by decide +kernel
theorem dX0_init_8 : decode cX0_init 8 = .ok (.newarray .int, 2) := by decide +kernel
theorem dX0_init_10 : decode cX0_init 10 = .ok (.putfield 11, 3) := by decide +kernel
theorem dX0_init_13 : decode cX0_init 13 = .ok (.aload_n 0, 1) := by decide +kernel
theorem dX0_init_14 : decode cX0_init 14 = .ok (.sipush 512, 3) := by decide +kernel
theorem dX0_init_17 : decode cX0_init 17 = .ok (.newarray .int, 2) := by decide +kernel
theorem dX0_init_19 : decode cX0_init 19 = .ok (.putfield 15, 3) := by decide +kernel
theorem dX0_init_22 : decode cX0_init 22 = .ok (.aload_n 0, 1) := by decide +kernel
theorem dX0_init_23 : decode cX0_init 23 = .ok (.sipush 512, 3) := by decide +kernel
theorem dX0_init_26 : decode cX0_init 26 = .ok (.newarray .int, 2) := by decide +kernel
theorem dX0_init_28 : decode cX0_init 28 = .ok (.putfield 18, 3) := by decide +kernel
theorem dX0_init_31 : decode cX0_init 31 = .ok (.aload_n 0, 1) := by decide +kernel
theorem dX0_init_32 : decode cX0_init 32 = .ok (.iconst 0, 1) := by decide +kernel
theorem dX0_init_33 : decode cX0_init 33 = .ok (.putfield 21, 3) := by decide +kernel
theorem dX0_init_36 : decode cX0_init 36 = .ok (.aload_n 0, 1) := by decide +kernel
theorem dX0_init_37 : decode cX0_init 37 = .ok (.sipush 1024, 3) := by decide +kernel
theorem dX0_init_40 : decode cX0_init 40 = .ok (.newarray .int, 2) := by decide +kernel
theorem dX0_init_42 : decode cX0_init 42 = .ok (.putfield 25, 3) := by decide +kernel
theorem dX0_init_45 : decode cX0_init 45 = .ok (.aload_n 0, 1) := by decide +kernel
theorem dX0_init_46 : decode cX0_init 46 = .ok (.sipush 1024, 3) := by decide +kernel
theorem dX0_init_49 : decode cX0_init 49 = .ok (.newarray .int, 2) := by decide +kernel
theorem dX0_init_51 : decode cX0_init 51 = .ok (.putfield 28, 3) := by decide +kernel
theorem dX0_init_54 : decode cX0_init 54 = .ok (.aload_n 0, 1) := by decide +kernel
theorem dX0_init_55 : decode cX0_init 55 = .ok (.iconst 0, 1) := by decide +kernel
theorem dX0_init_56 : decode cX0_init 56 = .ok (.putfield 31, 3) := by decide +kernel
theorem dX0_init_59 : decode cX0_init 59 = .ok (.aload_n 0, 1) := by decide +kernel
theorem dX0_init_60 : decode cX0_init 60 = .ok (.bipush 50, 2) := by decide +kernel
theorem dX0_init_62 : decode cX0_init 62 = .ok (.newarray .int, 2) := by decide +kernel
theorem dX0_init_64 : decode cX0_init 64 = .ok (.putfield 34, 3) := by decide +kernel
theorem dX0_init_67 : decode cX0_init 67 = .ok (.aload_n 0, 1) := by decide +kernel
theorem dX0_init_68 : decode cX0_init 68 = .ok (.iconst 0, 1) := by decide +kernel
theorem dX0_init_69 : decode cX0_init 69 = .ok (.putfield 37, 3) := by decide +kernel
theorem dX0_init_72 : decode cX0_init 72 = .ok (.return_, 1) := by decide +kernel
def zX0_post : (Nat → ClassId) → Nat → List Value → va_W → Prop := fun ct _ fs ex => ∃ (q0 : Nat) (q1 : Nat) (q2 : Nat) (q3 : Nat) (q4 : Nat) (q5 : Nat), fs = [.ref q0, .ref q1, .ref q2, .int 0, .ref q3, .ref q4, .int 0, .ref q5, .int 0] ∧ ex = (((((([] ++ [(q0, .inl (ct 0, 1188, .inl (fun _ => 0)))]) ++ [(q1, .inl (ct 0, 512, .inl (fun _ => 0)))]) ++ [(q2, .inl (ct 0, 512, .inl (fun _ => 0)))]) ++ [(q3, .inl (ct 0, 1024, .inl (fun _ => 0)))]) ++ [(q4, .inl (ct 0, 1024, .inl (fun _ => 0)))]) ++ [(q5, .inl (ct 0, 50, .inl (fun _ => 0)))])
set_option maxHeartbeats 16000000 in
set_option maxRecDepth 100000 in
theorem c_X0_init : zCt yX0_init cX0_init 0 [.null, .null, .null, .int 0, .null, .null, .int 0, .null, .int 0] ({ frames := 1, cells := 6, slots := 4310, locals := 20 }) 6 4310 zX0_post := by
  refine zct_of (by decide) rfl ?_
  intro p l e s m below meth c D ct h0 A ls Q cx ce
  obtain ⟨hx, hb, hml, hown, hts, hin, hK, hA, hP, hD, hS, hl, hN, hG⟩ := cx
  have hown : s.vm.findClass RX0 = some m.cls := hown
  refine lv_aload_n hx hb dX0_init_0 rfl (lv_at hl 0 rfl) ?_
  refine W.objInit hx hb hown (hts (.methodLink RX0 3 objectInit) (zin 162 (by decide +kernel) (by decide +kernel))) (hts _ ho_inst) (hts _ ho_code) rfl (by rw [hml]; exact hl.1) rfl dX0_init_1 (Nat.le_of_ble_eq_true rfl) (Nat.le_of_ble_eq_true rfl) ?_
  refine W.eq (g2 := F0 m 4 ls []) rfl ?_
  refine lv_aload_n hx hb dX0_init_4 rfl (lv_at hl 0 rfl) ?_
  refine lv_sipush hx hb dX0_init_5 rfl ?_
  refine zi_arr (atype := .int) (a0 := (1188, .inl (fun _ => 0))) (N' := 1188) hx hb 0 rfl rfl (hts _ ha_int) hK hP hD hS hA (fun _ => rfl) (by decide) rfl (Nat.le_of_ble_eq_true rfl) (Nat.le_of_ble_eq_true rfl) (Nat.le_of_ble_eq_true rfl) dX0_init_8 (fun q0 H hP hD hS => ?_)
  have hP : va_P D zcl ((h0, .inr (0, [.null, .null, .null, .int 0, .null, .null, .int 0, .null, .int 0])) :: ([] ++ [(q0, .inl (ct 0, 1188, .inl (fun _ => 0)))])) H := hP
  have hD : va_D A ((h0, .inr (0, [.null, .null, .null, .int 0, .null, .null, .int 0, .null, .int 0])) :: ([] ++ [(q0, .inl (ct 0, 1188, .inl (fun _ => 0)))])) := hD
  refine va_putF (D := D) (ci := 0) (v := .ref q0) (ty := .array .int) (C := RX0) (T := TX0) (N := 9) hx hb hts hi_X0 tyX0 tyX0_ok nmX0 hown hK hP hD hS 0 rfl rfl 0 (by decide) (hts (.fieldLink RX0 11 "PenLines$Counts" "counts" "[I") (zin 163 (by decide +kernel) (by decide +kernel))) (fun _ h9 => h9) rfl hin rfl (by decide +kernel) rfl rfl (Nat.le_of_ble_eq_true rfl) dX0_init_10 (fun H locs hP hD hS => ?_)
  have hP : va_P D zcl ((h0, .inr (0, [.ref q0, .null, .null, .int 0, .null, .null, .int 0, .null, .int 0])) :: ([] ++ [(q0, .inl (ct 0, 1188, .inl (fun _ => 0)))])) H := hP
  have hD : va_D A ((h0, .inr (0, [.ref q0, .null, .null, .int 0, .null, .null, .int 0, .null, .int 0])) :: ([] ++ [(q0, .inl (ct 0, 1188, .inl (fun _ => 0)))])) := hD
  refine lv_aload_n hx hb dX0_init_13 rfl (lv_at hl 0 rfl) ?_
  refine lv_sipush hx hb dX0_init_14 rfl ?_
  refine zi_arr (atype := .int) (a0 := (512, .inl (fun _ => 0))) (N' := 512) hx hb 0 rfl rfl (hts _ ha_int) hK hP hD hS hA (fun _ => rfl) (by decide) rfl (Nat.le_of_ble_eq_true rfl) (Nat.le_of_ble_eq_true rfl) (Nat.le_of_ble_eq_true rfl) dX0_init_17 (fun q1 H hP hD hS => ?_)
  have hP : va_P D zcl ((h0, .inr (0, [.ref q0, .null, .null, .int 0, .null, .null, .int 0, .null, .int 0])) :: (([] ++ [(q0, .inl (ct 0, 1188, .inl (fun _ => 0)))]) ++ [(q1, .inl (ct 0, 512, .inl (fun _ => 0)))])) H := hP
  have hD : va_D A ((h0, .inr (0, [.ref q0, .null, .null, .int 0, .null, .null, .int 0, .null, .int 0])) :: (([] ++ [(q0, .inl (ct 0, 1188, .inl (fun _ => 0)))]) ++ [(q1, .inl (ct 0, 512, .inl (fun _ => 0)))])) := hD
  refine va_putF (D := D) (ci := 0) (v := .ref q1) (ty := .array .int) (C := RX0) (T := TX0) (N := 9) hx hb hts hi_X0 tyX0 tyX0_ok nmX0 hown hK hP hD hS 0 rfl rfl 1 (by decide) (hts (.fieldLink RX0 15 "PenLines$Counts" "formLetters" "[I") (zin 166 (by decide +kernel) (by decide +kernel))) (fun _ h9 => h9) rfl hin rfl (by decide +kernel) rfl rfl (Nat.le_of_ble_eq_true rfl) dX0_init_19 (fun H locs hP hD hS => ?_)
  have hP : va_P D zcl ((h0, .inr (0, [.ref q0, .ref q1, .null, .int 0, .null, .null, .int 0, .null, .int 0])) :: (([] ++ [(q0, .inl (ct 0, 1188, .inl (fun _ => 0)))]) ++ [(q1, .inl (ct 0, 512, .inl (fun _ => 0)))])) H := hP
  have hD : va_D A ((h0, .inr (0, [.ref q0, .ref q1, .null, .int 0, .null, .null, .int 0, .null, .int 0])) :: (([] ++ [(q0, .inl (ct 0, 1188, .inl (fun _ => 0)))]) ++ [(q1, .inl (ct 0, 512, .inl (fun _ => 0)))])) := hD
  refine lv_aload_n hx hb dX0_init_22 rfl (lv_at hl 0 rfl) ?_
  refine lv_sipush hx hb dX0_init_23 rfl ?_
  refine zi_arr (atype := .int) (a0 := (512, .inl (fun _ => 0))) (N' := 512) hx hb 0 rfl rfl (hts _ ha_int) hK hP hD hS hA (fun _ => rfl) (by decide) rfl (Nat.le_of_ble_eq_true rfl) (Nat.le_of_ble_eq_true rfl) (Nat.le_of_ble_eq_true rfl) dX0_init_26 (fun q2 H hP hD hS => ?_)
  have hP : va_P D zcl ((h0, .inr (0, [.ref q0, .ref q1, .null, .int 0, .null, .null, .int 0, .null, .int 0])) :: ((([] ++ [(q0, .inl (ct 0, 1188, .inl (fun _ => 0)))]) ++ [(q1, .inl (ct 0, 512, .inl (fun _ => 0)))]) ++ [(q2, .inl (ct 0, 512, .inl (fun _ => 0)))])) H := hP
  have hD : va_D A ((h0, .inr (0, [.ref q0, .ref q1, .null, .int 0, .null, .null, .int 0, .null, .int 0])) :: ((([] ++ [(q0, .inl (ct 0, 1188, .inl (fun _ => 0)))]) ++ [(q1, .inl (ct 0, 512, .inl (fun _ => 0)))]) ++ [(q2, .inl (ct 0, 512, .inl (fun _ => 0)))])) := hD
  refine va_putF (D := D) (ci := 0) (v := .ref q2) (ty := .array .int) (C := RX0) (T := TX0) (N := 9) hx hb hts hi_X0 tyX0 tyX0_ok nmX0 hown hK hP hD hS 0 rfl rfl 2 (by decide) (hts (.fieldLink RX0 18 "PenLines$Counts" "formRows" "[I") (zin 168 (by decide +kernel) (by decide +kernel))) (fun _ h9 => h9) rfl hin rfl (by decide +kernel) rfl rfl (Nat.le_of_ble_eq_true rfl) dX0_init_28 (fun H locs hP hD hS => ?_)
  have hP : va_P D zcl ((h0, .inr (0, [.ref q0, .ref q1, .ref q2, .int 0, .null, .null, .int 0, .null, .int 0])) :: ((([] ++ [(q0, .inl (ct 0, 1188, .inl (fun _ => 0)))]) ++ [(q1, .inl (ct 0, 512, .inl (fun _ => 0)))]) ++ [(q2, .inl (ct 0, 512, .inl (fun _ => 0)))])) H := hP
  have hD : va_D A ((h0, .inr (0, [.ref q0, .ref q1, .ref q2, .int 0, .null, .null, .int 0, .null, .int 0])) :: ((([] ++ [(q0, .inl (ct 0, 1188, .inl (fun _ => 0)))]) ++ [(q1, .inl (ct 0, 512, .inl (fun _ => 0)))]) ++ [(q2, .inl (ct 0, 512, .inl (fun _ => 0)))])) := hD
  refine lv_aload_n hx hb dX0_init_31 rfl (lv_at hl 0 rfl) ?_
  refine lv_iconst (v := (0)) hx hb dX0_init_32 (by decide) ?_
  refine va_put (D := D) (ci := 0) (v := .int 0) (ty := .int) (C := RX0) (T := TX0) (N := 9) hx hb hts hi_X0 tyX0 tyX0_ok nmX0 hown hK hP hD hS 0 rfl rfl 3 (by decide) (hts (.fieldLink RX0 21 "PenLines$Counts" "forms" "I") (zin 170 (by decide +kernel) (by decide +kernel))) (fun _ h9 => h9) rfl (by decide +kernel) rfl rfl (Nat.le_of_ble_eq_true rfl) dX0_init_33 (fun H locs hP hD hS => ?_)
  have hP : va_P D zcl ((h0, .inr (0, [.ref q0, .ref q1, .ref q2, .int 0, .null, .null, .int 0, .null, .int 0])) :: ((([] ++ [(q0, .inl (ct 0, 1188, .inl (fun _ => 0)))]) ++ [(q1, .inl (ct 0, 512, .inl (fun _ => 0)))]) ++ [(q2, .inl (ct 0, 512, .inl (fun _ => 0)))])) H := hP
  have hD : va_D A ((h0, .inr (0, [.ref q0, .ref q1, .ref q2, .int 0, .null, .null, .int 0, .null, .int 0])) :: ((([] ++ [(q0, .inl (ct 0, 1188, .inl (fun _ => 0)))]) ++ [(q1, .inl (ct 0, 512, .inl (fun _ => 0)))]) ++ [(q2, .inl (ct 0, 512, .inl (fun _ => 0)))])) := hD
  refine lv_aload_n hx hb dX0_init_36 rfl (lv_at hl 0 rfl) ?_
  refine lv_sipush hx hb dX0_init_37 rfl ?_
  refine zi_arr (atype := .int) (a0 := (1024, .inl (fun _ => 0))) (N' := 1024) hx hb 0 rfl rfl (hts _ ha_int) hK hP hD hS hA (fun _ => rfl) (by decide) rfl (Nat.le_of_ble_eq_true rfl) (Nat.le_of_ble_eq_true rfl) (Nat.le_of_ble_eq_true rfl) dX0_init_40 (fun q3 H hP hD hS => ?_)
  have hP : va_P D zcl ((h0, .inr (0, [.ref q0, .ref q1, .ref q2, .int 0, .null, .null, .int 0, .null, .int 0])) :: (((([] ++ [(q0, .inl (ct 0, 1188, .inl (fun _ => 0)))]) ++ [(q1, .inl (ct 0, 512, .inl (fun _ => 0)))]) ++ [(q2, .inl (ct 0, 512, .inl (fun _ => 0)))]) ++ [(q3, .inl (ct 0, 1024, .inl (fun _ => 0)))])) H := hP
  have hD : va_D A ((h0, .inr (0, [.ref q0, .ref q1, .ref q2, .int 0, .null, .null, .int 0, .null, .int 0])) :: (((([] ++ [(q0, .inl (ct 0, 1188, .inl (fun _ => 0)))]) ++ [(q1, .inl (ct 0, 512, .inl (fun _ => 0)))]) ++ [(q2, .inl (ct 0, 512, .inl (fun _ => 0)))]) ++ [(q3, .inl (ct 0, 1024, .inl (fun _ => 0)))])) := hD
  refine va_putF (D := D) (ci := 0) (v := .ref q3) (ty := .array .int) (C := RX0) (T := TX0) (N := 9) hx hb hts hi_X0 tyX0 tyX0_ok nmX0 hown hK hP hD hS 0 rfl rfl 4 (by decide) (hts (.fieldLink RX0 25 "PenLines$Counts" "undoSlots" "[I") (zin 172 (by decide +kernel) (by decide +kernel))) (fun _ h9 => h9) rfl hin rfl (by decide +kernel) rfl rfl (Nat.le_of_ble_eq_true rfl) dX0_init_42 (fun H locs hP hD hS => ?_)
  have hP : va_P D zcl ((h0, .inr (0, [.ref q0, .ref q1, .ref q2, .int 0, .ref q3, .null, .int 0, .null, .int 0])) :: (((([] ++ [(q0, .inl (ct 0, 1188, .inl (fun _ => 0)))]) ++ [(q1, .inl (ct 0, 512, .inl (fun _ => 0)))]) ++ [(q2, .inl (ct 0, 512, .inl (fun _ => 0)))]) ++ [(q3, .inl (ct 0, 1024, .inl (fun _ => 0)))])) H := hP
  have hD : va_D A ((h0, .inr (0, [.ref q0, .ref q1, .ref q2, .int 0, .ref q3, .null, .int 0, .null, .int 0])) :: (((([] ++ [(q0, .inl (ct 0, 1188, .inl (fun _ => 0)))]) ++ [(q1, .inl (ct 0, 512, .inl (fun _ => 0)))]) ++ [(q2, .inl (ct 0, 512, .inl (fun _ => 0)))]) ++ [(q3, .inl (ct 0, 1024, .inl (fun _ => 0)))])) := hD
  refine lv_aload_n hx hb dX0_init_45 rfl (lv_at hl 0 rfl) ?_
  refine lv_sipush hx hb dX0_init_46 rfl ?_
  refine zi_arr (atype := .int) (a0 := (1024, .inl (fun _ => 0))) (N' := 1024) hx hb 0 rfl rfl (hts _ ha_int) hK hP hD hS hA (fun _ => rfl) (by decide) rfl (Nat.le_of_ble_eq_true rfl) (Nat.le_of_ble_eq_true rfl) (Nat.le_of_ble_eq_true rfl) dX0_init_49 (fun q4 H hP hD hS => ?_)
  have hP : va_P D zcl ((h0, .inr (0, [.ref q0, .ref q1, .ref q2, .int 0, .ref q3, .null, .int 0, .null, .int 0])) :: ((((([] ++ [(q0, .inl (ct 0, 1188, .inl (fun _ => 0)))]) ++ [(q1, .inl (ct 0, 512, .inl (fun _ => 0)))]) ++ [(q2, .inl (ct 0, 512, .inl (fun _ => 0)))]) ++ [(q3, .inl (ct 0, 1024, .inl (fun _ => 0)))]) ++ [(q4, .inl (ct 0, 1024, .inl (fun _ => 0)))])) H := hP
  have hD : va_D A ((h0, .inr (0, [.ref q0, .ref q1, .ref q2, .int 0, .ref q3, .null, .int 0, .null, .int 0])) :: ((((([] ++ [(q0, .inl (ct 0, 1188, .inl (fun _ => 0)))]) ++ [(q1, .inl (ct 0, 512, .inl (fun _ => 0)))]) ++ [(q2, .inl (ct 0, 512, .inl (fun _ => 0)))]) ++ [(q3, .inl (ct 0, 1024, .inl (fun _ => 0)))]) ++ [(q4, .inl (ct 0, 1024, .inl (fun _ => 0)))])) := hD
  refine va_putF (D := D) (ci := 0) (v := .ref q4) (ty := .array .int) (C := RX0) (T := TX0) (N := 9) hx hb hts hi_X0 tyX0 tyX0_ok nmX0 hown hK hP hD hS 0 rfl rfl 5 (by decide) (hts (.fieldLink RX0 28 "PenLines$Counts" "undoCounts" "[I") (zin 173 (by decide +kernel) (by decide +kernel))) (fun _ h9 => h9) rfl hin rfl (by decide +kernel) rfl rfl (Nat.le_of_ble_eq_true rfl) dX0_init_51 (fun H locs hP hD hS => ?_)
  have hP : va_P D zcl ((h0, .inr (0, [.ref q0, .ref q1, .ref q2, .int 0, .ref q3, .ref q4, .int 0, .null, .int 0])) :: ((((([] ++ [(q0, .inl (ct 0, 1188, .inl (fun _ => 0)))]) ++ [(q1, .inl (ct 0, 512, .inl (fun _ => 0)))]) ++ [(q2, .inl (ct 0, 512, .inl (fun _ => 0)))]) ++ [(q3, .inl (ct 0, 1024, .inl (fun _ => 0)))]) ++ [(q4, .inl (ct 0, 1024, .inl (fun _ => 0)))])) H := hP
  have hD : va_D A ((h0, .inr (0, [.ref q0, .ref q1, .ref q2, .int 0, .ref q3, .ref q4, .int 0, .null, .int 0])) :: ((((([] ++ [(q0, .inl (ct 0, 1188, .inl (fun _ => 0)))]) ++ [(q1, .inl (ct 0, 512, .inl (fun _ => 0)))]) ++ [(q2, .inl (ct 0, 512, .inl (fun _ => 0)))]) ++ [(q3, .inl (ct 0, 1024, .inl (fun _ => 0)))]) ++ [(q4, .inl (ct 0, 1024, .inl (fun _ => 0)))])) := hD
  refine lv_aload_n hx hb dX0_init_54 rfl (lv_at hl 0 rfl) ?_
  refine lv_iconst (v := (0)) hx hb dX0_init_55 (by decide) ?_
  refine va_put (D := D) (ci := 0) (v := .int 0) (ty := .int) (C := RX0) (T := TX0) (N := 9) hx hb hts hi_X0 tyX0 tyX0_ok nmX0 hown hK hP hD hS 0 rfl rfl 6 (by decide) (hts (.fieldLink RX0 31 "PenLines$Counts" "undos" "I") (zin 174 (by decide +kernel) (by decide +kernel))) (fun _ h9 => h9) rfl (by decide +kernel) rfl rfl (Nat.le_of_ble_eq_true rfl) dX0_init_56 (fun H locs hP hD hS => ?_)
  have hP : va_P D zcl ((h0, .inr (0, [.ref q0, .ref q1, .ref q2, .int 0, .ref q3, .ref q4, .int 0, .null, .int 0])) :: ((((([] ++ [(q0, .inl (ct 0, 1188, .inl (fun _ => 0)))]) ++ [(q1, .inl (ct 0, 512, .inl (fun _ => 0)))]) ++ [(q2, .inl (ct 0, 512, .inl (fun _ => 0)))]) ++ [(q3, .inl (ct 0, 1024, .inl (fun _ => 0)))]) ++ [(q4, .inl (ct 0, 1024, .inl (fun _ => 0)))])) H := hP
  have hD : va_D A ((h0, .inr (0, [.ref q0, .ref q1, .ref q2, .int 0, .ref q3, .ref q4, .int 0, .null, .int 0])) :: ((((([] ++ [(q0, .inl (ct 0, 1188, .inl (fun _ => 0)))]) ++ [(q1, .inl (ct 0, 512, .inl (fun _ => 0)))]) ++ [(q2, .inl (ct 0, 512, .inl (fun _ => 0)))]) ++ [(q3, .inl (ct 0, 1024, .inl (fun _ => 0)))]) ++ [(q4, .inl (ct 0, 1024, .inl (fun _ => 0)))])) := hD
  refine lv_aload_n hx hb dX0_init_59 rfl (lv_at hl 0 rfl) ?_
  refine lv_bipush hx hb dX0_init_60 rfl ?_
  refine zi_arr (atype := .int) (a0 := (50, .inl (fun _ => 0))) (N' := 50) hx hb 0 rfl rfl (hts _ ha_int) hK hP hD hS hA (fun _ => rfl) (by decide) rfl (Nat.le_of_ble_eq_true rfl) (Nat.le_of_ble_eq_true rfl) (Nat.le_of_ble_eq_true rfl) dX0_init_62 (fun q5 H hP hD hS => ?_)
  have hP : va_P D zcl ((h0, .inr (0, [.ref q0, .ref q1, .ref q2, .int 0, .ref q3, .ref q4, .int 0, .null, .int 0])) :: (((((([] ++ [(q0, .inl (ct 0, 1188, .inl (fun _ => 0)))]) ++ [(q1, .inl (ct 0, 512, .inl (fun _ => 0)))]) ++ [(q2, .inl (ct 0, 512, .inl (fun _ => 0)))]) ++ [(q3, .inl (ct 0, 1024, .inl (fun _ => 0)))]) ++ [(q4, .inl (ct 0, 1024, .inl (fun _ => 0)))]) ++ [(q5, .inl (ct 0, 50, .inl (fun _ => 0)))])) H := hP
  have hD : va_D A ((h0, .inr (0, [.ref q0, .ref q1, .ref q2, .int 0, .ref q3, .ref q4, .int 0, .null, .int 0])) :: (((((([] ++ [(q0, .inl (ct 0, 1188, .inl (fun _ => 0)))]) ++ [(q1, .inl (ct 0, 512, .inl (fun _ => 0)))]) ++ [(q2, .inl (ct 0, 512, .inl (fun _ => 0)))]) ++ [(q3, .inl (ct 0, 1024, .inl (fun _ => 0)))]) ++ [(q4, .inl (ct 0, 1024, .inl (fun _ => 0)))]) ++ [(q5, .inl (ct 0, 50, .inl (fun _ => 0)))])) := hD
  refine va_putF (D := D) (ci := 0) (v := .ref q5) (ty := .array .int) (C := RX0) (T := TX0) (N := 9) hx hb hts hi_X0 tyX0 tyX0_ok nmX0 hown hK hP hD hS 0 rfl rfl 7 (by decide) (hts (.fieldLink RX0 34 "PenLines$Counts" "undosAhead" "[I") (zin 175 (by decide +kernel) (by decide +kernel))) (fun _ h9 => h9) rfl hin rfl (by decide +kernel) rfl rfl (Nat.le_of_ble_eq_true rfl) dX0_init_64 (fun H locs hP hD hS => ?_)
  have hP : va_P D zcl ((h0, .inr (0, [.ref q0, .ref q1, .ref q2, .int 0, .ref q3, .ref q4, .int 0, .ref q5, .int 0])) :: (((((([] ++ [(q0, .inl (ct 0, 1188, .inl (fun _ => 0)))]) ++ [(q1, .inl (ct 0, 512, .inl (fun _ => 0)))]) ++ [(q2, .inl (ct 0, 512, .inl (fun _ => 0)))]) ++ [(q3, .inl (ct 0, 1024, .inl (fun _ => 0)))]) ++ [(q4, .inl (ct 0, 1024, .inl (fun _ => 0)))]) ++ [(q5, .inl (ct 0, 50, .inl (fun _ => 0)))])) H := hP
  have hD : va_D A ((h0, .inr (0, [.ref q0, .ref q1, .ref q2, .int 0, .ref q3, .ref q4, .int 0, .ref q5, .int 0])) :: (((((([] ++ [(q0, .inl (ct 0, 1188, .inl (fun _ => 0)))]) ++ [(q1, .inl (ct 0, 512, .inl (fun _ => 0)))]) ++ [(q2, .inl (ct 0, 512, .inl (fun _ => 0)))]) ++ [(q3, .inl (ct 0, 1024, .inl (fun _ => 0)))]) ++ [(q4, .inl (ct 0, 1024, .inl (fun _ => 0)))]) ++ [(q5, .inl (ct 0, 50, .inl (fun _ => 0)))])) := hD
  refine lv_aload_n hx hb dX0_init_67 rfl (lv_at hl 0 rfl) ?_
  refine lv_iconst (v := (0)) hx hb dX0_init_68 (by decide) ?_
  refine va_put (D := D) (ci := 0) (v := .int 0) (ty := .int) (C := RX0) (T := TX0) (N := 9) hx hb hts hi_X0 tyX0 tyX0_ok nmX0 hown hK hP hD hS 0 rfl rfl 8 (by decide) (hts (.fieldLink RX0 37 "PenLines$Counts" "teachings" "I") (zin 176 (by decide +kernel) (by decide +kernel))) (fun _ h9 => h9) rfl (by decide +kernel) rfl rfl (Nat.le_of_ble_eq_true rfl) dX0_init_69 (fun H locs hP hD hS => ?_)
  have hP : va_P D zcl ((h0, .inr (0, [.ref q0, .ref q1, .ref q2, .int 0, .ref q3, .ref q4, .int 0, .ref q5, .int 0])) :: (((((([] ++ [(q0, .inl (ct 0, 1188, .inl (fun _ => 0)))]) ++ [(q1, .inl (ct 0, 512, .inl (fun _ => 0)))]) ++ [(q2, .inl (ct 0, 512, .inl (fun _ => 0)))]) ++ [(q3, .inl (ct 0, 1024, .inl (fun _ => 0)))]) ++ [(q4, .inl (ct 0, 1024, .inl (fun _ => 0)))]) ++ [(q5, .inl (ct 0, 50, .inl (fun _ => 0)))])) H := hP
  have hD : va_D A ((h0, .inr (0, [.ref q0, .ref q1, .ref q2, .int 0, .ref q3, .ref q4, .int 0, .ref q5, .int 0])) :: (((((([] ++ [(q0, .inl (ct 0, 1188, .inl (fun _ => 0)))]) ++ [(q1, .inl (ct 0, 512, .inl (fun _ => 0)))]) ++ [(q2, .inl (ct 0, 512, .inl (fun _ => 0)))]) ++ [(q3, .inl (ct 0, 1024, .inl (fun _ => 0)))]) ++ [(q4, .inl (ct 0, 1024, .inl (fun _ => 0)))]) ++ [(q5, .inl (ct 0, 50, .inl (fun _ => 0)))])) := hD
  exact ce _ _ _ _ _ _ _ ⟨q0, q1, q2, q3, q4, q5, rfl, rfl⟩ hP hD hS (Nat.le_of_ble_eq_true rfl) (Nat.le_of_ble_eq_true rfl) dX0_init_72
abbrev cX1_init : ByteArray := prog_3_method_1_code
def yX1_init : MethodName := ⟨RX1, "<init>", "()V"⟩
theorem dX1_init_0 : decode cX1_init 0 = .ok (.aload_n 0, 1) := by decide +kernel
theorem dX1_init_1 : decode cX1_init 1 = .ok (.invokespecial 3, 3) := by decide +kernel
theorem dX1_init_4 : decode cX1_init 4 = .ok (.aload_n 0, 1) := by decide +kernel
theorem dX1_init_5 : decode cX1_init 5 = .ok (.sipush 1092, 3) := by decide +kernel
theorem dX1_init_8 : decode cX1_init 8 = .ok (.newarray .int, 2) := by decide +kernel
theorem dX1_init_10 : decode cX1_init 10 = .ok (.putfield 9, 3) := by decide +kernel
theorem dX1_init_13 : decode cX1_init 13 = .ok (.aload_n 0, 1) := by decide +kernel
theorem dX1_init_14 : decode cX1_init 14 = .ok (.iconst 0, 1) := by decide +kernel
theorem dX1_init_15 : decode cX1_init 15 = .ok (.putfield 15, 3) := by decide +kernel
theorem dX1_init_18 : decode cX1_init 18 = .ok (.return_, 1) := by decide +kernel
def zX1_post : (Nat → ClassId) → Nat → List Value → va_W → Prop := fun ct _ fs ex => ∃ (q0 : Nat), fs = [.ref q0, .int 0] ∧ ex = ([] ++ [(q0, .inl (ct 0, 1092, .inl (fun _ => 0)))])
set_option maxHeartbeats 16000000 in
set_option maxRecDepth 100000 in
theorem c_X1_init : zCt yX1_init cX1_init 1 [.null, .int 0] ({ frames := 1, cells := 1, slots := 1092, locals := 20 }) 1 1092 zX1_post := by
  refine zct_of (by decide) rfl ?_
  intro p l e s m below meth c D ct h0 A ls Q cx ce
  obtain ⟨hx, hb, hml, hown, hts, hin, hK, hA, hP, hD, hS, hl, hN, hG⟩ := cx
  have hown : s.vm.findClass RX1 = some m.cls := hown
  refine lv_aload_n hx hb dX1_init_0 rfl (lv_at hl 0 rfl) ?_
  refine W.objInit hx hb hown (hts (.methodLink RX1 3 objectInit) (zin 228 (by decide +kernel) (by decide +kernel))) (hts _ ho_inst) (hts _ ho_code) rfl (by rw [hml]; exact hl.1) rfl dX1_init_1 (Nat.le_of_ble_eq_true rfl) (Nat.le_of_ble_eq_true rfl) ?_
  refine W.eq (g2 := F0 m 4 ls []) rfl ?_
  refine lv_aload_n hx hb dX1_init_4 rfl (lv_at hl 0 rfl) ?_
  refine lv_sipush hx hb dX1_init_5 rfl ?_
  refine zi_arr (atype := .int) (a0 := (1092, .inl (fun _ => 0))) (N' := 1092) hx hb 0 rfl rfl (hts _ ha_int) hK hP hD hS hA (fun _ => rfl) (by decide) rfl (Nat.le_of_ble_eq_true rfl) (Nat.le_of_ble_eq_true rfl) (Nat.le_of_ble_eq_true rfl) dX1_init_8 (fun q0 H hP hD hS => ?_)
  have hP : va_P D zcl ((h0, .inr (1, [.null, .int 0])) :: ([] ++ [(q0, .inl (ct 0, 1092, .inl (fun _ => 0)))])) H := hP
  have hD : va_D A ((h0, .inr (1, [.null, .int 0])) :: ([] ++ [(q0, .inl (ct 0, 1092, .inl (fun _ => 0)))])) := hD
  refine va_putF (D := D) (ci := 1) (v := .ref q0) (ty := .array .int) (C := RX1) (T := TX1) (N := 2) hx hb hts hi_X1 tyX1 tyX1_ok nmX1 hown hK hP hD hS 0 rfl rfl 0 (by decide) (hts (.fieldLink RX1 9 "PenLines$Fits" "costs" "[I") (zin 229 (by decide +kernel) (by decide +kernel))) (fun _ h9 => h9) rfl hin rfl (by decide +kernel) rfl rfl (Nat.le_of_ble_eq_true rfl) dX1_init_10 (fun H locs hP hD hS => ?_)
  have hP : va_P D zcl ((h0, .inr (1, [.ref q0, .int 0])) :: ([] ++ [(q0, .inl (ct 0, 1092, .inl (fun _ => 0)))])) H := hP
  have hD : va_D A ((h0, .inr (1, [.ref q0, .int 0])) :: ([] ++ [(q0, .inl (ct 0, 1092, .inl (fun _ => 0)))])) := hD
  refine lv_aload_n hx hb dX1_init_13 rfl (lv_at hl 0 rfl) ?_
  refine lv_iconst (v := (0)) hx hb dX1_init_14 (by decide) ?_
  refine va_put (D := D) (ci := 1) (v := .int 0) (ty := .int) (C := RX1) (T := TX1) (N := 2) hx hb hts hi_X1 tyX1 tyX1_ok nmX1 hown hK hP hD hS 0 rfl rfl 1 (by decide) (hts (.fieldLink RX1 15 "PenLines$Fits" "pieces" "I") (zin 230 (by decide +kernel) (by decide +kernel))) (fun _ h9 => h9) rfl (by decide +kernel) rfl rfl (Nat.le_of_ble_eq_true rfl) dX1_init_15 (fun H locs hP hD hS => ?_)
  have hP : va_P D zcl ((h0, .inr (1, [.ref q0, .int 0])) :: ([] ++ [(q0, .inl (ct 0, 1092, .inl (fun _ => 0)))])) H := hP
  have hD : va_D A ((h0, .inr (1, [.ref q0, .int 0])) :: ([] ++ [(q0, .inl (ct 0, 1092, .inl (fun _ => 0)))])) := hD
  exact ce _ _ _ _ _ _ _ ⟨q0, rfl, rfl⟩ hP hD hS (Nat.le_of_ble_eq_true rfl) (Nat.le_of_ble_eq_true rfl) dX1_init_18
abbrev cX2_init : ByteArray := prog_4_method_1_code
def yX2_init : MethodName := ⟨RX2, "<init>", "()V"⟩
theorem dX2_init_0 : decode cX2_init 0 = .ok (.aload_n 0, 1) := by decide +kernel
theorem dX2_init_1 : decode cX2_init 1 = .ok (.invokespecial 3, 3) := by decide +kernel
theorem dX2_init_4 : decode cX2_init 4 = .ok (.aload_n 0, 1) := by decide +kernel
theorem dX2_init_5 : decode cX2_init 5 = .ok (.bipush 40, 2) := by decide +kernel
theorem dX2_init_7 : decode cX2_init 7 = .ok (.newarray .int, 2) := by decide +kernel
theorem dX2_init_9 : decode cX2_init 9 = .ok (.putfield 9, 3) := by decide +kernel
theorem dX2_init_12 : decode cX2_init 12 = .ok (.aload_n 0, 1) := by decide +kernel
theorem dX2_init_13 : decode cX2_init 13 = .ok (.bipush 40, 2) := by decide +kernel
theorem dX2_init_15 : decode cX2_init 15 = .ok (.newarray .int, 2) := by decide +kernel
theorem dX2_init_17 : decode cX2_init 17 = .ok (.putfield 15, 3) := by decide +kernel
theorem dX2_init_20 : decode cX2_init 20 = .ok (.aload_n 0, 1) := by decide +kernel
theorem dX2_init_21 : decode cX2_init 21 = .ok (.iconst 0, 1) := by decide +kernel
theorem dX2_init_22 : decode cX2_init 22 = .ok (.putfield 18, 3) := by decide +kernel
theorem dX2_init_25 : decode cX2_init 25 = .ok (.aload_n 0, 1) := by decide +kernel
theorem dX2_init_26 : decode cX2_init 26 = .ok (.bipush 30, 2) := by decide +kernel
theorem dX2_init_28 : decode cX2_init 28 = .ok (.putfield 22, 3) := by decide +kernel
theorem dX2_init_31 : decode cX2_init 31 = .ok (.aload_n 0, 1) := by decide +kernel
theorem dX2_init_32 : decode cX2_init 32 = .ok (.bipush 40, 2) := by decide +kernel
theorem dX2_init_34 : decode cX2_init 34 = .ok (.newarray .int, 2) := by decide +kernel
theorem dX2_init_36 : decode cX2_init 36 = .ok (.putfield 25, 3) := by decide +kernel
theorem dX2_init_39 : decode cX2_init 39 = .ok (.aload_n 0, 1) := by decide +kernel
theorem dX2_init_40 : decode cX2_init 40 = .ok (.bipush 40, 2) := by decide +kernel
theorem dX2_init_42 : decode cX2_init 42 = .ok (.newarray .int, 2) := by decide +kernel
theorem dX2_init_44 : decode cX2_init 44 = .ok (.putfield 28, 3) := by decide +kernel
theorem dX2_init_47 : decode cX2_init 47 = .ok (.aload_n 0, 1) := by decide +kernel
theorem dX2_init_48 : decode cX2_init 48 = .ok (.bipush 40, 2) := by decide +kernel
theorem dX2_init_50 : decode cX2_init 50 = .ok (.newarray .int, 2) := by decide +kernel
theorem dX2_init_52 : decode cX2_init 52 = .ok (.putfield 31, 3) := by decide +kernel
theorem dX2_init_55 : decode cX2_init 55 = .ok (.aload_n 0, 1) := by decide +kernel
theorem dX2_init_56 : decode cX2_init 56 = .ok (.iconst 0, 1) := by decide +kernel
theorem dX2_init_57 : decode cX2_init 57 = .ok (.putfield 34, 3) := by decide +kernel
theorem dX2_init_60 : decode cX2_init 60 = .ok (.aload_n 0, 1) := by decide +kernel
theorem dX2_init_61 : decode cX2_init 61 = .ok (.bipush 41, 2) := by decide +kernel
theorem dX2_init_63 : decode cX2_init 63 = .ok (.newarray .int, 2) := by decide +kernel
theorem dX2_init_65 : decode cX2_init 65 = .ok (.putfield 37, 3) := by decide +kernel
theorem dX2_init_68 : decode cX2_init 68 = .ok (.aload_n 0, 1) := by decide +kernel
theorem dX2_init_69 : decode cX2_init 69 = .ok (.bipush 40, 2) := by decide +kernel
theorem dX2_init_71 : decode cX2_init 71 = .ok (.newarray .int, 2) := by decide +kernel
theorem dX2_init_73 : decode cX2_init 73 = .ok (.putfield 40, 3) := by decide +kernel
theorem dX2_init_76 : decode cX2_init 76 = .ok (.aload_n 0, 1) := by decide +kernel
theorem dX2_init_77 : decode cX2_init 77 = .ok (.iconst 0, 1) := by decide +kernel
theorem dX2_init_78 : decode cX2_init 78 = .ok (.putfield 43, 3) := by decide +kernel
theorem dX2_init_81 : decode cX2_init 81 = .ok (.aload_n 0, 1) := by decide +kernel
theorem dX2_init_82 : decode cX2_init 82 = .ok (.iconst 0, 1) := by decide +kernel
theorem dX2_init_83 : decode cX2_init 83 = .ok (.putfield 46, 3) := by decide +kernel
theorem dX2_init_86 : decode cX2_init 86 = .ok (.return_, 1) := by decide +kernel
def zX2_post : (Nat → ClassId) → Nat → List Value → va_W → Prop := fun ct _ fs ex => ∃ (q0 : Nat) (q1 : Nat) (q2 : Nat) (q3 : Nat) (q4 : Nat) (q5 : Nat) (q6 : Nat), fs = [.ref q0, .ref q1, .int 0, .int 30, .ref q2, .ref q3, .ref q4, .int 0, .ref q5, .ref q6, .int 0, .int 0] ∧ ex = ((((((([] ++ [(q0, .inl (ct 0, 40, .inl (fun _ => 0)))]) ++ [(q1, .inl (ct 0, 40, .inl (fun _ => 0)))]) ++ [(q2, .inl (ct 0, 40, .inl (fun _ => 0)))]) ++ [(q3, .inl (ct 0, 40, .inl (fun _ => 0)))]) ++ [(q4, .inl (ct 0, 40, .inl (fun _ => 0)))]) ++ [(q5, .inl (ct 0, 41, .inl (fun _ => 0)))]) ++ [(q6, .inl (ct 0, 40, .inl (fun _ => 0)))])
set_option maxHeartbeats 16000000 in
set_option maxRecDepth 100000 in
theorem c_X2_init : zCt yX2_init cX2_init 2 [.null, .null, .int 0, .int 0, .null, .null, .null, .int 0, .null, .null, .int 0, .int 0] ({ frames := 1, cells := 7, slots := 281, locals := 20 }) 7 281 zX2_post := by
  refine zct_of (by decide) rfl ?_
  intro p l e s m below meth c D ct h0 A ls Q cx ce
  obtain ⟨hx, hb, hml, hown, hts, hin, hK, hA, hP, hD, hS, hl, hN, hG⟩ := cx
  have hown : s.vm.findClass RX2 = some m.cls := hown
  refine lv_aload_n hx hb dX2_init_0 rfl (lv_at hl 0 rfl) ?_
  refine W.objInit hx hb hown (hts (.methodLink RX2 3 objectInit) (zin 108 (by decide +kernel) (by decide +kernel))) (hts _ ho_inst) (hts _ ho_code) rfl (by rw [hml]; exact hl.1) rfl dX2_init_1 (Nat.le_of_ble_eq_true rfl) (Nat.le_of_ble_eq_true rfl) ?_
  refine W.eq (g2 := F0 m 4 ls []) rfl ?_
  refine lv_aload_n hx hb dX2_init_4 rfl (lv_at hl 0 rfl) ?_
  refine lv_bipush hx hb dX2_init_5 rfl ?_
  refine zi_arr (atype := .int) (a0 := (40, .inl (fun _ => 0))) (N' := 40) hx hb 0 rfl rfl (hts _ ha_int) hK hP hD hS hA (fun _ => rfl) (by decide) rfl (Nat.le_of_ble_eq_true rfl) (Nat.le_of_ble_eq_true rfl) (Nat.le_of_ble_eq_true rfl) dX2_init_7 (fun q0 H hP hD hS => ?_)
  have hP : va_P D zcl ((h0, .inr (2, [.null, .null, .int 0, .int 0, .null, .null, .null, .int 0, .null, .null, .int 0, .int 0])) :: ([] ++ [(q0, .inl (ct 0, 40, .inl (fun _ => 0)))])) H := hP
  have hD : va_D A ((h0, .inr (2, [.null, .null, .int 0, .int 0, .null, .null, .null, .int 0, .null, .null, .int 0, .int 0])) :: ([] ++ [(q0, .inl (ct 0, 40, .inl (fun _ => 0)))])) := hD
  refine va_putF (D := D) (ci := 2) (v := .ref q0) (ty := .array .int) (C := RX2) (T := TX2) (N := 12) hx hb hts hi_X2 tyX2 tyX2_ok nmX2 hown hK hP hD hS 0 rfl rfl 0 (by decide) (hts (.fieldLink RX2 9 "PenLines$Line" "writtenXs" "[I") (zin 109 (by decide +kernel) (by decide +kernel))) (fun _ h9 => h9) rfl hin rfl (by decide +kernel) rfl rfl (Nat.le_of_ble_eq_true rfl) dX2_init_9 (fun H locs hP hD hS => ?_)
  have hP : va_P D zcl ((h0, .inr (2, [.ref q0, .null, .int 0, .int 0, .null, .null, .null, .int 0, .null, .null, .int 0, .int 0])) :: ([] ++ [(q0, .inl (ct 0, 40, .inl (fun _ => 0)))])) H := hP
  have hD : va_D A ((h0, .inr (2, [.ref q0, .null, .int 0, .int 0, .null, .null, .null, .int 0, .null, .null, .int 0, .int 0])) :: ([] ++ [(q0, .inl (ct 0, 40, .inl (fun _ => 0)))])) := hD
  refine lv_aload_n hx hb dX2_init_12 rfl (lv_at hl 0 rfl) ?_
  refine lv_bipush hx hb dX2_init_13 rfl ?_
  refine zi_arr (atype := .int) (a0 := (40, .inl (fun _ => 0))) (N' := 40) hx hb 0 rfl rfl (hts _ ha_int) hK hP hD hS hA (fun _ => rfl) (by decide) rfl (Nat.le_of_ble_eq_true rfl) (Nat.le_of_ble_eq_true rfl) (Nat.le_of_ble_eq_true rfl) dX2_init_15 (fun q1 H hP hD hS => ?_)
  have hP : va_P D zcl ((h0, .inr (2, [.ref q0, .null, .int 0, .int 0, .null, .null, .null, .int 0, .null, .null, .int 0, .int 0])) :: (([] ++ [(q0, .inl (ct 0, 40, .inl (fun _ => 0)))]) ++ [(q1, .inl (ct 0, 40, .inl (fun _ => 0)))])) H := hP
  have hD : va_D A ((h0, .inr (2, [.ref q0, .null, .int 0, .int 0, .null, .null, .null, .int 0, .null, .null, .int 0, .int 0])) :: (([] ++ [(q0, .inl (ct 0, 40, .inl (fun _ => 0)))]) ++ [(q1, .inl (ct 0, 40, .inl (fun _ => 0)))])) := hD
  refine va_putF (D := D) (ci := 2) (v := .ref q1) (ty := .array .int) (C := RX2) (T := TX2) (N := 12) hx hb hts hi_X2 tyX2 tyX2_ok nmX2 hown hK hP hD hS 0 rfl rfl 1 (by decide) (hts (.fieldLink RX2 15 "PenLines$Line" "writtenShapes" "[I") (zin 110 (by decide +kernel) (by decide +kernel))) (fun _ h9 => h9) rfl hin rfl (by decide +kernel) rfl rfl (Nat.le_of_ble_eq_true rfl) dX2_init_17 (fun H locs hP hD hS => ?_)
  have hP : va_P D zcl ((h0, .inr (2, [.ref q0, .ref q1, .int 0, .int 0, .null, .null, .null, .int 0, .null, .null, .int 0, .int 0])) :: (([] ++ [(q0, .inl (ct 0, 40, .inl (fun _ => 0)))]) ++ [(q1, .inl (ct 0, 40, .inl (fun _ => 0)))])) H := hP
  have hD : va_D A ((h0, .inr (2, [.ref q0, .ref q1, .int 0, .int 0, .null, .null, .null, .int 0, .null, .null, .int 0, .int 0])) :: (([] ++ [(q0, .inl (ct 0, 40, .inl (fun _ => 0)))]) ++ [(q1, .inl (ct 0, 40, .inl (fun _ => 0)))])) := hD
  refine lv_aload_n hx hb dX2_init_20 rfl (lv_at hl 0 rfl) ?_
  refine lv_iconst (v := (0)) hx hb dX2_init_21 (by decide) ?_
  refine va_put (D := D) (ci := 2) (v := .int 0) (ty := .int) (C := RX2) (T := TX2) (N := 12) hx hb hts hi_X2 tyX2 tyX2_ok nmX2 hown hK hP hD hS 0 rfl rfl 2 (by decide) (hts (.fieldLink RX2 18 "PenLines$Line" "written" "I") (zin 111 (by decide +kernel) (by decide +kernel))) (fun _ h9 => h9) rfl (by decide +kernel) rfl rfl (Nat.le_of_ble_eq_true rfl) dX2_init_22 (fun H locs hP hD hS => ?_)
  have hP : va_P D zcl ((h0, .inr (2, [.ref q0, .ref q1, .int 0, .int 0, .null, .null, .null, .int 0, .null, .null, .int 0, .int 0])) :: (([] ++ [(q0, .inl (ct 0, 40, .inl (fun _ => 0)))]) ++ [(q1, .inl (ct 0, 40, .inl (fun _ => 0)))])) H := hP
  have hD : va_D A ((h0, .inr (2, [.ref q0, .ref q1, .int 0, .int 0, .null, .null, .null, .int 0, .null, .null, .int 0, .int 0])) :: (([] ++ [(q0, .inl (ct 0, 40, .inl (fun _ => 0)))]) ++ [(q1, .inl (ct 0, 40, .inl (fun _ => 0)))])) := hD
  refine lv_aload_n hx hb dX2_init_25 rfl (lv_at hl 0 rfl) ?_
  refine lv_bipush hx hb dX2_init_26 rfl ?_
  refine va_put (D := D) (ci := 2) (v := .int 30) (ty := .int) (C := RX2) (T := TX2) (N := 12) hx hb hts hi_X2 tyX2 tyX2_ok nmX2 hown hK hP hD hS 0 rfl rfl 3 (by decide) (hts (.fieldLink RX2 22 "PenLines$Line" "gap" "I") (zin 113 (by decide +kernel) (by decide +kernel))) (fun _ h9 => h9) rfl (by decide +kernel) rfl rfl (Nat.le_of_ble_eq_true rfl) dX2_init_28 (fun H locs hP hD hS => ?_)
  have hP : va_P D zcl ((h0, .inr (2, [.ref q0, .ref q1, .int 0, .int 30, .null, .null, .null, .int 0, .null, .null, .int 0, .int 0])) :: (([] ++ [(q0, .inl (ct 0, 40, .inl (fun _ => 0)))]) ++ [(q1, .inl (ct 0, 40, .inl (fun _ => 0)))])) H := hP
  have hD : va_D A ((h0, .inr (2, [.ref q0, .ref q1, .int 0, .int 30, .null, .null, .null, .int 0, .null, .null, .int 0, .int 0])) :: (([] ++ [(q0, .inl (ct 0, 40, .inl (fun _ => 0)))]) ++ [(q1, .inl (ct 0, 40, .inl (fun _ => 0)))])) := hD
  refine lv_aload_n hx hb dX2_init_31 rfl (lv_at hl 0 rfl) ?_
  refine lv_bipush hx hb dX2_init_32 rfl ?_
  refine zi_arr (atype := .int) (a0 := (40, .inl (fun _ => 0))) (N' := 40) hx hb 0 rfl rfl (hts _ ha_int) hK hP hD hS hA (fun _ => rfl) (by decide) rfl (Nat.le_of_ble_eq_true rfl) (Nat.le_of_ble_eq_true rfl) (Nat.le_of_ble_eq_true rfl) dX2_init_34 (fun q2 H hP hD hS => ?_)
  have hP : va_P D zcl ((h0, .inr (2, [.ref q0, .ref q1, .int 0, .int 30, .null, .null, .null, .int 0, .null, .null, .int 0, .int 0])) :: ((([] ++ [(q0, .inl (ct 0, 40, .inl (fun _ => 0)))]) ++ [(q1, .inl (ct 0, 40, .inl (fun _ => 0)))]) ++ [(q2, .inl (ct 0, 40, .inl (fun _ => 0)))])) H := hP
  have hD : va_D A ((h0, .inr (2, [.ref q0, .ref q1, .int 0, .int 30, .null, .null, .null, .int 0, .null, .null, .int 0, .int 0])) :: ((([] ++ [(q0, .inl (ct 0, 40, .inl (fun _ => 0)))]) ++ [(q1, .inl (ct 0, 40, .inl (fun _ => 0)))]) ++ [(q2, .inl (ct 0, 40, .inl (fun _ => 0)))])) := hD
  refine va_putF (D := D) (ci := 2) (v := .ref q2) (ty := .array .int) (C := RX2) (T := TX2) (N := 12) hx hb hts hi_X2 tyX2 tyX2_ok nmX2 hown hK hP hD hS 0 rfl rfl 4 (by decide) (hts (.fieldLink RX2 25 "PenLines$Line" "xs" "[I") (zin 115 (by decide +kernel) (by decide +kernel))) (fun _ h9 => h9) rfl hin rfl (by decide +kernel) rfl rfl (Nat.le_of_ble_eq_true rfl) dX2_init_36 (fun H locs hP hD hS => ?_)
  have hP : va_P D zcl ((h0, .inr (2, [.ref q0, .ref q1, .int 0, .int 30, .ref q2, .null, .null, .int 0, .null, .null, .int 0, .int 0])) :: ((([] ++ [(q0, .inl (ct 0, 40, .inl (fun _ => 0)))]) ++ [(q1, .inl (ct 0, 40, .inl (fun _ => 0)))]) ++ [(q2, .inl (ct 0, 40, .inl (fun _ => 0)))])) H := hP
  have hD : va_D A ((h0, .inr (2, [.ref q0, .ref q1, .int 0, .int 30, .ref q2, .null, .null, .int 0, .null, .null, .int 0, .int 0])) :: ((([] ++ [(q0, .inl (ct 0, 40, .inl (fun _ => 0)))]) ++ [(q1, .inl (ct 0, 40, .inl (fun _ => 0)))]) ++ [(q2, .inl (ct 0, 40, .inl (fun _ => 0)))])) := hD
  refine lv_aload_n hx hb dX2_init_39 rfl (lv_at hl 0 rfl) ?_
  refine lv_bipush hx hb dX2_init_40 rfl ?_
  refine zi_arr (atype := .int) (a0 := (40, .inl (fun _ => 0))) (N' := 40) hx hb 0 rfl rfl (hts _ ha_int) hK hP hD hS hA (fun _ => rfl) (by decide) rfl (Nat.le_of_ble_eq_true rfl) (Nat.le_of_ble_eq_true rfl) (Nat.le_of_ble_eq_true rfl) dX2_init_42 (fun q3 H hP hD hS => ?_)
  have hP : va_P D zcl ((h0, .inr (2, [.ref q0, .ref q1, .int 0, .int 30, .ref q2, .null, .null, .int 0, .null, .null, .int 0, .int 0])) :: (((([] ++ [(q0, .inl (ct 0, 40, .inl (fun _ => 0)))]) ++ [(q1, .inl (ct 0, 40, .inl (fun _ => 0)))]) ++ [(q2, .inl (ct 0, 40, .inl (fun _ => 0)))]) ++ [(q3, .inl (ct 0, 40, .inl (fun _ => 0)))])) H := hP
  have hD : va_D A ((h0, .inr (2, [.ref q0, .ref q1, .int 0, .int 30, .ref q2, .null, .null, .int 0, .null, .null, .int 0, .int 0])) :: (((([] ++ [(q0, .inl (ct 0, 40, .inl (fun _ => 0)))]) ++ [(q1, .inl (ct 0, 40, .inl (fun _ => 0)))]) ++ [(q2, .inl (ct 0, 40, .inl (fun _ => 0)))]) ++ [(q3, .inl (ct 0, 40, .inl (fun _ => 0)))])) := hD
  refine va_putF (D := D) (ci := 2) (v := .ref q3) (ty := .array .int) (C := RX2) (T := TX2) (N := 12) hx hb hts hi_X2 tyX2 tyX2_ok nmX2 hown hK hP hD hS 0 rfl rfl 5 (by decide) (hts (.fieldLink RX2 28 "PenLines$Line" "shapes" "[I") (zin 117 (by decide +kernel) (by decide +kernel))) (fun _ h9 => h9) rfl hin rfl (by decide +kernel) rfl rfl (Nat.le_of_ble_eq_true rfl) dX2_init_44 (fun H locs hP hD hS => ?_)
  have hP : va_P D zcl ((h0, .inr (2, [.ref q0, .ref q1, .int 0, .int 30, .ref q2, .ref q3, .null, .int 0, .null, .null, .int 0, .int 0])) :: (((([] ++ [(q0, .inl (ct 0, 40, .inl (fun _ => 0)))]) ++ [(q1, .inl (ct 0, 40, .inl (fun _ => 0)))]) ++ [(q2, .inl (ct 0, 40, .inl (fun _ => 0)))]) ++ [(q3, .inl (ct 0, 40, .inl (fun _ => 0)))])) H := hP
  have hD : va_D A ((h0, .inr (2, [.ref q0, .ref q1, .int 0, .int 30, .ref q2, .ref q3, .null, .int 0, .null, .null, .int 0, .int 0])) :: (((([] ++ [(q0, .inl (ct 0, 40, .inl (fun _ => 0)))]) ++ [(q1, .inl (ct 0, 40, .inl (fun _ => 0)))]) ++ [(q2, .inl (ct 0, 40, .inl (fun _ => 0)))]) ++ [(q3, .inl (ct 0, 40, .inl (fun _ => 0)))])) := hD
  refine lv_aload_n hx hb dX2_init_47 rfl (lv_at hl 0 rfl) ?_
  refine lv_bipush hx hb dX2_init_48 rfl ?_
  refine zi_arr (atype := .int) (a0 := (40, .inl (fun _ => 0))) (N' := 40) hx hb 0 rfl rfl (hts _ ha_int) hK hP hD hS hA (fun _ => rfl) (by decide) rfl (Nat.le_of_ble_eq_true rfl) (Nat.le_of_ble_eq_true rfl) (Nat.le_of_ble_eq_true rfl) dX2_init_50 (fun q4 H hP hD hS => ?_)
  have hP : va_P D zcl ((h0, .inr (2, [.ref q0, .ref q1, .int 0, .int 30, .ref q2, .ref q3, .null, .int 0, .null, .null, .int 0, .int 0])) :: ((((([] ++ [(q0, .inl (ct 0, 40, .inl (fun _ => 0)))]) ++ [(q1, .inl (ct 0, 40, .inl (fun _ => 0)))]) ++ [(q2, .inl (ct 0, 40, .inl (fun _ => 0)))]) ++ [(q3, .inl (ct 0, 40, .inl (fun _ => 0)))]) ++ [(q4, .inl (ct 0, 40, .inl (fun _ => 0)))])) H := hP
  have hD : va_D A ((h0, .inr (2, [.ref q0, .ref q1, .int 0, .int 30, .ref q2, .ref q3, .null, .int 0, .null, .null, .int 0, .int 0])) :: ((((([] ++ [(q0, .inl (ct 0, 40, .inl (fun _ => 0)))]) ++ [(q1, .inl (ct 0, 40, .inl (fun _ => 0)))]) ++ [(q2, .inl (ct 0, 40, .inl (fun _ => 0)))]) ++ [(q3, .inl (ct 0, 40, .inl (fun _ => 0)))]) ++ [(q4, .inl (ct 0, 40, .inl (fun _ => 0)))])) := hD
  refine va_putF (D := D) (ci := 2) (v := .ref q4) (ty := .array .int) (C := RX2) (T := TX2) (N := 12) hx hb hts hi_X2 tyX2 tyX2_ok nmX2 hown hK hP hD hS 0 rfl rfl 6 (by decide) (hts (.fieldLink RX2 31 "PenLines$Line" "dotsOn" "[I") (zin 119 (by decide +kernel) (by decide +kernel))) (fun _ h9 => h9) rfl hin rfl (by decide +kernel) rfl rfl (Nat.le_of_ble_eq_true rfl) dX2_init_52 (fun H locs hP hD hS => ?_)
  have hP : va_P D zcl ((h0, .inr (2, [.ref q0, .ref q1, .int 0, .int 30, .ref q2, .ref q3, .ref q4, .int 0, .null, .null, .int 0, .int 0])) :: ((((([] ++ [(q0, .inl (ct 0, 40, .inl (fun _ => 0)))]) ++ [(q1, .inl (ct 0, 40, .inl (fun _ => 0)))]) ++ [(q2, .inl (ct 0, 40, .inl (fun _ => 0)))]) ++ [(q3, .inl (ct 0, 40, .inl (fun _ => 0)))]) ++ [(q4, .inl (ct 0, 40, .inl (fun _ => 0)))])) H := hP
  have hD : va_D A ((h0, .inr (2, [.ref q0, .ref q1, .int 0, .int 30, .ref q2, .ref q3, .ref q4, .int 0, .null, .null, .int 0, .int 0])) :: ((((([] ++ [(q0, .inl (ct 0, 40, .inl (fun _ => 0)))]) ++ [(q1, .inl (ct 0, 40, .inl (fun _ => 0)))]) ++ [(q2, .inl (ct 0, 40, .inl (fun _ => 0)))]) ++ [(q3, .inl (ct 0, 40, .inl (fun _ => 0)))]) ++ [(q4, .inl (ct 0, 40, .inl (fun _ => 0)))])) := hD
  refine lv_aload_n hx hb dX2_init_55 rfl (lv_at hl 0 rfl) ?_
  refine lv_iconst (v := (0)) hx hb dX2_init_56 (by decide) ?_
  refine va_put (D := D) (ci := 2) (v := .int 0) (ty := .int) (C := RX2) (T := TX2) (N := 12) hx hb hts hi_X2 tyX2 tyX2_ok nmX2 hown hK hP hD hS 0 rfl rfl 7 (by decide) (hts (.fieldLink RX2 34 "PenLines$Line" "pieces" "I") (zin 121 (by decide +kernel) (by decide +kernel))) (fun _ h9 => h9) rfl (by decide +kernel) rfl rfl (Nat.le_of_ble_eq_true rfl) dX2_init_57 (fun H locs hP hD hS => ?_)
  have hP : va_P D zcl ((h0, .inr (2, [.ref q0, .ref q1, .int 0, .int 30, .ref q2, .ref q3, .ref q4, .int 0, .null, .null, .int 0, .int 0])) :: ((((([] ++ [(q0, .inl (ct 0, 40, .inl (fun _ => 0)))]) ++ [(q1, .inl (ct 0, 40, .inl (fun _ => 0)))]) ++ [(q2, .inl (ct 0, 40, .inl (fun _ => 0)))]) ++ [(q3, .inl (ct 0, 40, .inl (fun _ => 0)))]) ++ [(q4, .inl (ct 0, 40, .inl (fun _ => 0)))])) H := hP
  have hD : va_D A ((h0, .inr (2, [.ref q0, .ref q1, .int 0, .int 30, .ref q2, .ref q3, .ref q4, .int 0, .null, .null, .int 0, .int 0])) :: ((((([] ++ [(q0, .inl (ct 0, 40, .inl (fun _ => 0)))]) ++ [(q1, .inl (ct 0, 40, .inl (fun _ => 0)))]) ++ [(q2, .inl (ct 0, 40, .inl (fun _ => 0)))]) ++ [(q3, .inl (ct 0, 40, .inl (fun _ => 0)))]) ++ [(q4, .inl (ct 0, 40, .inl (fun _ => 0)))])) := hD
  refine lv_aload_n hx hb dX2_init_60 rfl (lv_at hl 0 rfl) ?_
  refine lv_bipush hx hb dX2_init_61 rfl ?_
  refine zi_arr (atype := .int) (a0 := (41, .inl (fun _ => 0))) (N' := 41) hx hb 0 rfl rfl (hts _ ha_int) hK hP hD hS hA (fun _ => rfl) (by decide) rfl (Nat.le_of_ble_eq_true rfl) (Nat.le_of_ble_eq_true rfl) (Nat.le_of_ble_eq_true rfl) dX2_init_63 (fun q5 H hP hD hS => ?_)
  have hP : va_P D zcl ((h0, .inr (2, [.ref q0, .ref q1, .int 0, .int 30, .ref q2, .ref q3, .ref q4, .int 0, .null, .null, .int 0, .int 0])) :: (((((([] ++ [(q0, .inl (ct 0, 40, .inl (fun _ => 0)))]) ++ [(q1, .inl (ct 0, 40, .inl (fun _ => 0)))]) ++ [(q2, .inl (ct 0, 40, .inl (fun _ => 0)))]) ++ [(q3, .inl (ct 0, 40, .inl (fun _ => 0)))]) ++ [(q4, .inl (ct 0, 40, .inl (fun _ => 0)))]) ++ [(q5, .inl (ct 0, 41, .inl (fun _ => 0)))])) H := hP
  have hD : va_D A ((h0, .inr (2, [.ref q0, .ref q1, .int 0, .int 30, .ref q2, .ref q3, .ref q4, .int 0, .null, .null, .int 0, .int 0])) :: (((((([] ++ [(q0, .inl (ct 0, 40, .inl (fun _ => 0)))]) ++ [(q1, .inl (ct 0, 40, .inl (fun _ => 0)))]) ++ [(q2, .inl (ct 0, 40, .inl (fun _ => 0)))]) ++ [(q3, .inl (ct 0, 40, .inl (fun _ => 0)))]) ++ [(q4, .inl (ct 0, 40, .inl (fun _ => 0)))]) ++ [(q5, .inl (ct 0, 41, .inl (fun _ => 0)))])) := hD
  refine va_putF (D := D) (ci := 2) (v := .ref q5) (ty := .array .int) (C := RX2) (T := TX2) (N := 12) hx hb hts hi_X2 tyX2 tyX2_ok nmX2 hown hK hP hD hS 0 rfl rfl 8 (by decide) (hts (.fieldLink RX2 37 "PenLines$Line" "firsts" "[I") (zin 123 (by decide +kernel) (by decide +kernel))) (fun _ h9 => h9) rfl hin rfl (by decide +kernel) rfl rfl (Nat.le_of_ble_eq_true rfl) dX2_init_65 (fun H locs hP hD hS => ?_)
  have hP : va_P D zcl ((h0, .inr (2, [.ref q0, .ref q1, .int 0, .int 30, .ref q2, .ref q3, .ref q4, .int 0, .ref q5, .null, .int 0, .int 0])) :: (((((([] ++ [(q0, .inl (ct 0, 40, .inl (fun _ => 0)))]) ++ [(q1, .inl (ct 0, 40, .inl (fun _ => 0)))]) ++ [(q2, .inl (ct 0, 40, .inl (fun _ => 0)))]) ++ [(q3, .inl (ct 0, 40, .inl (fun _ => 0)))]) ++ [(q4, .inl (ct 0, 40, .inl (fun _ => 0)))]) ++ [(q5, .inl (ct 0, 41, .inl (fun _ => 0)))])) H := hP
  have hD : va_D A ((h0, .inr (2, [.ref q0, .ref q1, .int 0, .int 30, .ref q2, .ref q3, .ref q4, .int 0, .ref q5, .null, .int 0, .int 0])) :: (((((([] ++ [(q0, .inl (ct 0, 40, .inl (fun _ => 0)))]) ++ [(q1, .inl (ct 0, 40, .inl (fun _ => 0)))]) ++ [(q2, .inl (ct 0, 40, .inl (fun _ => 0)))]) ++ [(q3, .inl (ct 0, 40, .inl (fun _ => 0)))]) ++ [(q4, .inl (ct 0, 40, .inl (fun _ => 0)))]) ++ [(q5, .inl (ct 0, 41, .inl (fun _ => 0)))])) := hD
  refine lv_aload_n hx hb dX2_init_68 rfl (lv_at hl 0 rfl) ?_
  refine lv_bipush hx hb dX2_init_69 rfl ?_
  refine zi_arr (atype := .int) (a0 := (40, .inl (fun _ => 0))) (N' := 40) hx hb 0 rfl rfl (hts _ ha_int) hK hP hD hS hA (fun _ => rfl) (by decide) rfl (Nat.le_of_ble_eq_true rfl) (Nat.le_of_ble_eq_true rfl) (Nat.le_of_ble_eq_true rfl) dX2_init_71 (fun q6 H hP hD hS => ?_)
  have hP : va_P D zcl ((h0, .inr (2, [.ref q0, .ref q1, .int 0, .int 30, .ref q2, .ref q3, .ref q4, .int 0, .ref q5, .null, .int 0, .int 0])) :: ((((((([] ++ [(q0, .inl (ct 0, 40, .inl (fun _ => 0)))]) ++ [(q1, .inl (ct 0, 40, .inl (fun _ => 0)))]) ++ [(q2, .inl (ct 0, 40, .inl (fun _ => 0)))]) ++ [(q3, .inl (ct 0, 40, .inl (fun _ => 0)))]) ++ [(q4, .inl (ct 0, 40, .inl (fun _ => 0)))]) ++ [(q5, .inl (ct 0, 41, .inl (fun _ => 0)))]) ++ [(q6, .inl (ct 0, 40, .inl (fun _ => 0)))])) H := hP
  have hD : va_D A ((h0, .inr (2, [.ref q0, .ref q1, .int 0, .int 30, .ref q2, .ref q3, .ref q4, .int 0, .ref q5, .null, .int 0, .int 0])) :: ((((((([] ++ [(q0, .inl (ct 0, 40, .inl (fun _ => 0)))]) ++ [(q1, .inl (ct 0, 40, .inl (fun _ => 0)))]) ++ [(q2, .inl (ct 0, 40, .inl (fun _ => 0)))]) ++ [(q3, .inl (ct 0, 40, .inl (fun _ => 0)))]) ++ [(q4, .inl (ct 0, 40, .inl (fun _ => 0)))]) ++ [(q5, .inl (ct 0, 41, .inl (fun _ => 0)))]) ++ [(q6, .inl (ct 0, 40, .inl (fun _ => 0)))])) := hD
  refine va_putF (D := D) (ci := 2) (v := .ref q6) (ty := .array .int) (C := RX2) (T := TX2) (N := 12) hx hb hts hi_X2 tyX2 tyX2_ok nmX2 hown hK hP hD hS 0 rfl rfl 9 (by decide) (hts (.fieldLink RX2 40 "PenLines$Line" "dotsIn" "[I") (zin 126 (by decide +kernel) (by decide +kernel))) (fun _ h9 => h9) rfl hin rfl (by decide +kernel) rfl rfl (Nat.le_of_ble_eq_true rfl) dX2_init_73 (fun H locs hP hD hS => ?_)
  have hP : va_P D zcl ((h0, .inr (2, [.ref q0, .ref q1, .int 0, .int 30, .ref q2, .ref q3, .ref q4, .int 0, .ref q5, .ref q6, .int 0, .int 0])) :: ((((((([] ++ [(q0, .inl (ct 0, 40, .inl (fun _ => 0)))]) ++ [(q1, .inl (ct 0, 40, .inl (fun _ => 0)))]) ++ [(q2, .inl (ct 0, 40, .inl (fun _ => 0)))]) ++ [(q3, .inl (ct 0, 40, .inl (fun _ => 0)))]) ++ [(q4, .inl (ct 0, 40, .inl (fun _ => 0)))]) ++ [(q5, .inl (ct 0, 41, .inl (fun _ => 0)))]) ++ [(q6, .inl (ct 0, 40, .inl (fun _ => 0)))])) H := hP
  have hD : va_D A ((h0, .inr (2, [.ref q0, .ref q1, .int 0, .int 30, .ref q2, .ref q3, .ref q4, .int 0, .ref q5, .ref q6, .int 0, .int 0])) :: ((((((([] ++ [(q0, .inl (ct 0, 40, .inl (fun _ => 0)))]) ++ [(q1, .inl (ct 0, 40, .inl (fun _ => 0)))]) ++ [(q2, .inl (ct 0, 40, .inl (fun _ => 0)))]) ++ [(q3, .inl (ct 0, 40, .inl (fun _ => 0)))]) ++ [(q4, .inl (ct 0, 40, .inl (fun _ => 0)))]) ++ [(q5, .inl (ct 0, 41, .inl (fun _ => 0)))]) ++ [(q6, .inl (ct 0, 40, .inl (fun _ => 0)))])) := hD
  refine lv_aload_n hx hb dX2_init_76 rfl (lv_at hl 0 rfl) ?_
  refine lv_iconst (v := (0)) hx hb dX2_init_77 (by decide) ?_
  refine va_put (D := D) (ci := 2) (v := .int 0) (ty := .int) (C := RX2) (T := TX2) (N := 12) hx hb hts hi_X2 tyX2 tyX2_ok nmX2 hown hK hP hD hS 0 rfl rfl 10 (by decide) (hts (.fieldLink RX2 43 "PenLines$Line" "inks" "I") (zin 128 (by decide +kernel) (by decide +kernel))) (fun _ h9 => h9) rfl (by decide +kernel) rfl rfl (Nat.le_of_ble_eq_true rfl) dX2_init_78 (fun H locs hP hD hS => ?_)
  have hP : va_P D zcl ((h0, .inr (2, [.ref q0, .ref q1, .int 0, .int 30, .ref q2, .ref q3, .ref q4, .int 0, .ref q5, .ref q6, .int 0, .int 0])) :: ((((((([] ++ [(q0, .inl (ct 0, 40, .inl (fun _ => 0)))]) ++ [(q1, .inl (ct 0, 40, .inl (fun _ => 0)))]) ++ [(q2, .inl (ct 0, 40, .inl (fun _ => 0)))]) ++ [(q3, .inl (ct 0, 40, .inl (fun _ => 0)))]) ++ [(q4, .inl (ct 0, 40, .inl (fun _ => 0)))]) ++ [(q5, .inl (ct 0, 41, .inl (fun _ => 0)))]) ++ [(q6, .inl (ct 0, 40, .inl (fun _ => 0)))])) H := hP
  have hD : va_D A ((h0, .inr (2, [.ref q0, .ref q1, .int 0, .int 30, .ref q2, .ref q3, .ref q4, .int 0, .ref q5, .ref q6, .int 0, .int 0])) :: ((((((([] ++ [(q0, .inl (ct 0, 40, .inl (fun _ => 0)))]) ++ [(q1, .inl (ct 0, 40, .inl (fun _ => 0)))]) ++ [(q2, .inl (ct 0, 40, .inl (fun _ => 0)))]) ++ [(q3, .inl (ct 0, 40, .inl (fun _ => 0)))]) ++ [(q4, .inl (ct 0, 40, .inl (fun _ => 0)))]) ++ [(q5, .inl (ct 0, 41, .inl (fun _ => 0)))]) ++ [(q6, .inl (ct 0, 40, .inl (fun _ => 0)))])) := hD
  refine lv_aload_n hx hb dX2_init_81 rfl (lv_at hl 0 rfl) ?_
  refine lv_iconst (v := (0)) hx hb dX2_init_82 (by decide) ?_
  refine va_put (D := D) (ci := 2) (v := .int 0) (ty := .int) (C := RX2) (T := TX2) (N := 12) hx hb hts hi_X2 tyX2 tyX2_ok nmX2 hown hK hP hD hS 0 rfl rfl 11 (by decide) (hts (.fieldLink RX2 46 "PenLines$Line" "looseDots" "I") (zin 130 (by decide +kernel) (by decide +kernel))) (fun _ h9 => h9) rfl (by decide +kernel) rfl rfl (Nat.le_of_ble_eq_true rfl) dX2_init_83 (fun H locs hP hD hS => ?_)
  have hP : va_P D zcl ((h0, .inr (2, [.ref q0, .ref q1, .int 0, .int 30, .ref q2, .ref q3, .ref q4, .int 0, .ref q5, .ref q6, .int 0, .int 0])) :: ((((((([] ++ [(q0, .inl (ct 0, 40, .inl (fun _ => 0)))]) ++ [(q1, .inl (ct 0, 40, .inl (fun _ => 0)))]) ++ [(q2, .inl (ct 0, 40, .inl (fun _ => 0)))]) ++ [(q3, .inl (ct 0, 40, .inl (fun _ => 0)))]) ++ [(q4, .inl (ct 0, 40, .inl (fun _ => 0)))]) ++ [(q5, .inl (ct 0, 41, .inl (fun _ => 0)))]) ++ [(q6, .inl (ct 0, 40, .inl (fun _ => 0)))])) H := hP
  have hD : va_D A ((h0, .inr (2, [.ref q0, .ref q1, .int 0, .int 30, .ref q2, .ref q3, .ref q4, .int 0, .ref q5, .ref q6, .int 0, .int 0])) :: ((((((([] ++ [(q0, .inl (ct 0, 40, .inl (fun _ => 0)))]) ++ [(q1, .inl (ct 0, 40, .inl (fun _ => 0)))]) ++ [(q2, .inl (ct 0, 40, .inl (fun _ => 0)))]) ++ [(q3, .inl (ct 0, 40, .inl (fun _ => 0)))]) ++ [(q4, .inl (ct 0, 40, .inl (fun _ => 0)))]) ++ [(q5, .inl (ct 0, 41, .inl (fun _ => 0)))]) ++ [(q6, .inl (ct 0, 40, .inl (fun _ => 0)))])) := hD
  exact ce _ _ _ _ _ _ _ ⟨q0, q1, q2, q3, q4, q5, q6, rfl, rfl⟩ hP hD hS (Nat.le_of_ble_eq_true rfl) (Nat.le_of_ble_eq_true rfl) dX2_init_86
abbrev cX3_init : ByteArray := prog_5_method_1_code
def yX3_init : MethodName := ⟨RX3, "<init>", "()V"⟩
theorem dX3_init_0 : decode cX3_init 0 = .ok (.aload_n 0, 1) := by decide +kernel
theorem dX3_init_1 : decode cX3_init 1 = .ok (.invokespecial 3, 3) := by decide +kernel
theorem dX3_init_4 : decode cX3_init 4 = .ok (.aload_n 0, 1) := by decide +kernel
theorem dX3_init_5 : decode cX3_init 5 = .ok (.bipush 30, 2) := by decide +kernel
theorem dX3_init_7 : decode cX3_init 7 = .ok (.newarray .int, 2) := by decide +kernel
theorem dX3_init_9 : decode cX3_init 9 = .ok (.putfield 9, 3) := by decide +kernel
theorem dX3_init_12 : decode cX3_init 12 = .ok (.aload_n 0, 1) := by decide +kernel
theorem dX3_init_13 : decode cX3_init 13 = .ok (.bipush 30, 2) := by decide +kernel
theorem dX3_init_15 : decode cX3_init 15 = .ok (.newarray .int, 2) := by decide +kernel
theorem dX3_init_17 : decode cX3_init 17 = .ok (.putfield 15, 3) := by decide +kernel
theorem dX3_init_20 : decode cX3_init 20 = .ok (.aload_n 0, 1) := by decide +kernel
theorem dX3_init_21 : decode cX3_init 21 = .ok (.iconst 0, 1) := by decide +kernel
theorem dX3_init_22 : decode cX3_init 22 = .ok (.putfield 18, 3) := by decide +kernel
theorem dX3_init_25 : decode cX3_init 25 = .ok (.return_, 1) := by decide +kernel
def zX3_post : (Nat → ClassId) → Nat → List Value → va_W → Prop := fun ct _ fs ex => ∃ (q0 : Nat) (q1 : Nat), fs = [.ref q0, .ref q1, .int 0] ∧ ex = (([] ++ [(q0, .inl (ct 0, 30, .inl (fun _ => 0)))]) ++ [(q1, .inl (ct 0, 30, .inl (fun _ => 0)))])
set_option maxHeartbeats 16000000 in
set_option maxRecDepth 100000 in
theorem c_X3_init : zCt yX3_init cX3_init 3 [.null, .null, .int 0] ({ frames := 1, cells := 2, slots := 60, locals := 20 }) 2 60 zX3_post := by
  refine zct_of (by decide) rfl ?_
  intro p l e s m below meth c D ct h0 A ls Q cx ce
  obtain ⟨hx, hb, hml, hown, hts, hin, hK, hA, hP, hD, hS, hl, hN, hG⟩ := cx
  have hown : s.vm.findClass RX3 = some m.cls := hown
  refine lv_aload_n hx hb dX3_init_0 rfl (lv_at hl 0 rfl) ?_
  refine W.objInit hx hb hown (hts (.methodLink RX3 3 objectInit) (zin 279 (by decide +kernel) (by decide +kernel))) (hts _ ho_inst) (hts _ ho_code) rfl (by rw [hml]; exact hl.1) rfl dX3_init_1 (Nat.le_of_ble_eq_true rfl) (Nat.le_of_ble_eq_true rfl) ?_
  refine W.eq (g2 := F0 m 4 ls []) rfl ?_
  refine lv_aload_n hx hb dX3_init_4 rfl (lv_at hl 0 rfl) ?_
  refine lv_bipush hx hb dX3_init_5 rfl ?_
  refine zi_arr (atype := .int) (a0 := (30, .inl (fun _ => 0))) (N' := 30) hx hb 0 rfl rfl (hts _ ha_int) hK hP hD hS hA (fun _ => rfl) (by decide) rfl (Nat.le_of_ble_eq_true rfl) (Nat.le_of_ble_eq_true rfl) (Nat.le_of_ble_eq_true rfl) dX3_init_7 (fun q0 H hP hD hS => ?_)
  have hP : va_P D zcl ((h0, .inr (3, [.null, .null, .int 0])) :: ([] ++ [(q0, .inl (ct 0, 30, .inl (fun _ => 0)))])) H := hP
  have hD : va_D A ((h0, .inr (3, [.null, .null, .int 0])) :: ([] ++ [(q0, .inl (ct 0, 30, .inl (fun _ => 0)))])) := hD
  refine va_putF (D := D) (ci := 3) (v := .ref q0) (ty := .array .int) (C := RX3) (T := TX3) (N := 3) hx hb hts hi_X3 tyX3 tyX3_ok nmX3 hown hK hP hD hS 0 rfl rfl 0 (by decide) (hts (.fieldLink RX3 9 "PenLines$ListReadings" "places" "[I") (zin 280 (by decide +kernel) (by decide +kernel))) (fun _ h9 => h9) rfl hin rfl (by decide +kernel) rfl rfl (Nat.le_of_ble_eq_true rfl) dX3_init_9 (fun H locs hP hD hS => ?_)
  have hP : va_P D zcl ((h0, .inr (3, [.ref q0, .null, .int 0])) :: ([] ++ [(q0, .inl (ct 0, 30, .inl (fun _ => 0)))])) H := hP
  have hD : va_D A ((h0, .inr (3, [.ref q0, .null, .int 0])) :: ([] ++ [(q0, .inl (ct 0, 30, .inl (fun _ => 0)))])) := hD
  refine lv_aload_n hx hb dX3_init_12 rfl (lv_at hl 0 rfl) ?_
  refine lv_bipush hx hb dX3_init_13 rfl ?_
  refine zi_arr (atype := .int) (a0 := (30, .inl (fun _ => 0))) (N' := 30) hx hb 0 rfl rfl (hts _ ha_int) hK hP hD hS hA (fun _ => rfl) (by decide) rfl (Nat.le_of_ble_eq_true rfl) (Nat.le_of_ble_eq_true rfl) (Nat.le_of_ble_eq_true rfl) dX3_init_15 (fun q1 H hP hD hS => ?_)
  have hP : va_P D zcl ((h0, .inr (3, [.ref q0, .null, .int 0])) :: (([] ++ [(q0, .inl (ct 0, 30, .inl (fun _ => 0)))]) ++ [(q1, .inl (ct 0, 30, .inl (fun _ => 0)))])) H := hP
  have hD : va_D A ((h0, .inr (3, [.ref q0, .null, .int 0])) :: (([] ++ [(q0, .inl (ct 0, 30, .inl (fun _ => 0)))]) ++ [(q1, .inl (ct 0, 30, .inl (fun _ => 0)))])) := hD
  refine va_putF (D := D) (ci := 3) (v := .ref q1) (ty := .array .int) (C := RX3) (T := TX3) (N := 3) hx hb hts hi_X3 tyX3 tyX3_ok nmX3 hown hK hP hD hS 0 rfl rfl 1 (by decide) (hts (.fieldLink RX3 15 "PenLines$ListReadings" "costs" "[I") (zin 282 (by decide +kernel) (by decide +kernel))) (fun _ h9 => h9) rfl hin rfl (by decide +kernel) rfl rfl (Nat.le_of_ble_eq_true rfl) dX3_init_17 (fun H locs hP hD hS => ?_)
  have hP : va_P D zcl ((h0, .inr (3, [.ref q0, .ref q1, .int 0])) :: (([] ++ [(q0, .inl (ct 0, 30, .inl (fun _ => 0)))]) ++ [(q1, .inl (ct 0, 30, .inl (fun _ => 0)))])) H := hP
  have hD : va_D A ((h0, .inr (3, [.ref q0, .ref q1, .int 0])) :: (([] ++ [(q0, .inl (ct 0, 30, .inl (fun _ => 0)))]) ++ [(q1, .inl (ct 0, 30, .inl (fun _ => 0)))])) := hD
  refine lv_aload_n hx hb dX3_init_20 rfl (lv_at hl 0 rfl) ?_
  refine lv_iconst (v := (0)) hx hb dX3_init_21 (by decide) ?_
  refine va_put (D := D) (ci := 3) (v := .int 0) (ty := .int) (C := RX3) (T := TX3) (N := 3) hx hb hts hi_X3 tyX3 tyX3_ok nmX3 hown hK hP hD hS 0 rfl rfl 2 (by decide) (hts (.fieldLink RX3 18 "PenLines$ListReadings" "many" "I") (zin 284 (by decide +kernel) (by decide +kernel))) (fun _ h9 => h9) rfl (by decide +kernel) rfl rfl (Nat.le_of_ble_eq_true rfl) dX3_init_22 (fun H locs hP hD hS => ?_)
  have hP : va_P D zcl ((h0, .inr (3, [.ref q0, .ref q1, .int 0])) :: (([] ++ [(q0, .inl (ct 0, 30, .inl (fun _ => 0)))]) ++ [(q1, .inl (ct 0, 30, .inl (fun _ => 0)))])) H := hP
  have hD : va_D A ((h0, .inr (3, [.ref q0, .ref q1, .int 0])) :: (([] ++ [(q0, .inl (ct 0, 30, .inl (fun _ => 0)))]) ++ [(q1, .inl (ct 0, 30, .inl (fun _ => 0)))])) := hD
  exact ce _ _ _ _ _ _ _ ⟨q0, q1, rfl, rfl⟩ hP hD hS (Nat.le_of_ble_eq_true rfl) (Nat.le_of_ble_eq_true rfl) dX3_init_25
abbrev cX4_init : ByteArray := prog_6_method_1_code
def yX4_init : MethodName := ⟨RX4, "<init>", "()V"⟩
theorem dX4_init_0 : decode cX4_init 0 = .ok (.aload_n 0, 1) := by decide +kernel
theorem dX4_init_1 : decode cX4_init 1 = .ok (.invokespecial 5, 3) := by decide +kernel
theorem dX4_init_4 : decode cX4_init 4 = .ok (.aload_n 0, 1) := by decide +kernel
theorem dX4_init_5 : decode cX4_init 5 = .ok (.sipush 313, 3) := by decide +kernel
theorem dX4_init_8 : decode cX4_init 8 = .ok (.newarray .int, 2) := by decide +kernel
theorem dX4_init_10 : decode cX4_init 10 = .ok (.putfield 11, 3) := by decide +kernel
theorem dX4_init_13 : decode cX4_init 13 = .ok (.aload_n 0, 1) := by decide +kernel
theorem dX4_init_14 : decode cX4_init 14 = .ok (.sipush 1565, 3) := by decide +kernel
theorem dX4_init_17 : decode cX4_init 17 = .ok (.newarray .int, 2) := by decide +kernel
theorem dX4_init_19 : decode cX4_init 19 = .ok (.putfield 15, 3) := by decide +kernel
theorem dX4_init_22 : decode cX4_init 22 = .ok (.aload_n 0, 1) := by decide +kernel
theorem dX4_init_23 : decode cX4_init 23 = .ok (.sipush 1565, 3) := by decide +kernel
theorem dX4_init_26 : decode cX4_init 26 = .ok (.newarray .long, 2) := by decide +kernel
theorem dX4_init_28 : decode cX4_init 28 = .ok (.putfield 18, 3) := by decide +kernel
theorem dX4_init_31 : decode cX4_init 31 = .ok (.aload_n 0, 1) := by decide +kernel
theorem dX4_init_32 : decode cX4_init 32 = .ok (.iconst 0, 1) := by decide +kernel
theorem dX4_init_33 : decode cX4_init 33 = .ok (.putfield 22, 3) := by decide +kernel
theorem dX4_init_36 : decode cX4_init 36 = .ok (.aload_n 0, 1) := by decide +kernel
theorem dX4_init_37 : decode cX4_init 37 = .ok (.iconst 0, 1) := by decide +kernel
theorem dX4_init_38 : decode cX4_init 38 = .ok (.putfield 26, 3) := by decide +kernel
theorem dX4_init_41 : decode cX4_init 41 = .ok (.return_, 1) := by decide +kernel
def zX4_post : (Nat → ClassId) → Nat → List Value → va_W → Prop := fun ct _ fs ex => ∃ (q0 : Nat) (q1 : Nat) (q2 : Nat), fs = [.ref q0, .ref q1, .ref q2, .int 0, .int 0] ∧ ex = ((([] ++ [(q0, .inl (ct 0, 313, .inl (fun _ => 0)))]) ++ [(q1, .inl (ct 0, 1565, .inl (fun _ => 0)))]) ++ [(q2, .inl (ct 2, 1565, .inr (.inl (fun _ => 0))))])
set_option maxHeartbeats 16000000 in
set_option maxRecDepth 100000 in
theorem c_X4_init : zCt yX4_init cX4_init 4 [.null, .null, .null, .int 0, .int 0] ({ frames := 1, cells := 3, slots := 3443, locals := 20 }) 3 3443 zX4_post := by
  refine zct_of (by decide) rfl ?_
  intro p l e s m below meth c D ct h0 A ls Q cx ce
  obtain ⟨hx, hb, hml, hown, hts, hin, hK, hA, hP, hD, hS, hl, hN, hG⟩ := cx
  have hown : s.vm.findClass RX4 = some m.cls := hown
  refine lv_aload_n hx hb dX4_init_0 rfl (lv_at hl 0 rfl) ?_
  refine W.objInit hx hb hown (hts (.methodLink RX4 5 objectInit) (zin 243 (by decide +kernel) (by decide +kernel))) (hts _ ho_inst) (hts _ ho_code) rfl (by rw [hml]; exact hl.1) rfl dX4_init_1 (Nat.le_of_ble_eq_true rfl) (Nat.le_of_ble_eq_true rfl) ?_
  refine W.eq (g2 := F0 m 4 ls []) rfl ?_
  refine lv_aload_n hx hb dX4_init_4 rfl (lv_at hl 0 rfl) ?_
  refine lv_sipush hx hb dX4_init_5 rfl ?_
  refine zi_arr (atype := .int) (a0 := (313, .inl (fun _ => 0))) (N' := 313) hx hb 0 rfl rfl (hts _ ha_int) hK hP hD hS hA (fun _ => rfl) (by decide) rfl (Nat.le_of_ble_eq_true rfl) (Nat.le_of_ble_eq_true rfl) (Nat.le_of_ble_eq_true rfl) dX4_init_8 (fun q0 H hP hD hS => ?_)
  have hP : va_P D zcl ((h0, .inr (4, [.null, .null, .null, .int 0, .int 0])) :: ([] ++ [(q0, .inl (ct 0, 313, .inl (fun _ => 0)))])) H := hP
  have hD : va_D A ((h0, .inr (4, [.null, .null, .null, .int 0, .int 0])) :: ([] ++ [(q0, .inl (ct 0, 313, .inl (fun _ => 0)))])) := hD
  refine va_putF (D := D) (ci := 4) (v := .ref q0) (ty := .array .int) (C := RX4) (T := TX4) (N := 5) hx hb hts hi_X4 tyX4 tyX4_ok nmX4 hown hK hP hD hS 0 rfl rfl 0 (by decide) (hts (.fieldLink RX4 11 "PenLines$OpenReadings" "held" "[I") (zin 244 (by decide +kernel) (by decide +kernel))) (fun _ h9 => h9) rfl hin rfl (by decide +kernel) rfl rfl (Nat.le_of_ble_eq_true rfl) dX4_init_10 (fun H locs hP hD hS => ?_)
  have hP : va_P D zcl ((h0, .inr (4, [.ref q0, .null, .null, .int 0, .int 0])) :: ([] ++ [(q0, .inl (ct 0, 313, .inl (fun _ => 0)))])) H := hP
  have hD : va_D A ((h0, .inr (4, [.ref q0, .null, .null, .int 0, .int 0])) :: ([] ++ [(q0, .inl (ct 0, 313, .inl (fun _ => 0)))])) := hD
  refine lv_aload_n hx hb dX4_init_13 rfl (lv_at hl 0 rfl) ?_
  refine lv_sipush hx hb dX4_init_14 rfl ?_
  refine zi_arr (atype := .int) (a0 := (1565, .inl (fun _ => 0))) (N' := 1565) hx hb 0 rfl rfl (hts _ ha_int) hK hP hD hS hA (fun _ => rfl) (by decide) rfl (Nat.le_of_ble_eq_true rfl) (Nat.le_of_ble_eq_true rfl) (Nat.le_of_ble_eq_true rfl) dX4_init_17 (fun q1 H hP hD hS => ?_)
  have hP : va_P D zcl ((h0, .inr (4, [.ref q0, .null, .null, .int 0, .int 0])) :: (([] ++ [(q0, .inl (ct 0, 313, .inl (fun _ => 0)))]) ++ [(q1, .inl (ct 0, 1565, .inl (fun _ => 0)))])) H := hP
  have hD : va_D A ((h0, .inr (4, [.ref q0, .null, .null, .int 0, .int 0])) :: (([] ++ [(q0, .inl (ct 0, 313, .inl (fun _ => 0)))]) ++ [(q1, .inl (ct 0, 1565, .inl (fun _ => 0)))])) := hD
  refine va_putF (D := D) (ci := 4) (v := .ref q1) (ty := .array .int) (C := RX4) (T := TX4) (N := 5) hx hb hts hi_X4 tyX4 tyX4_ok nmX4 hown hK hP hD hS 0 rfl rfl 1 (by decide) (hts (.fieldLink RX4 15 "PenLines$OpenReadings" "costs" "[I") (zin 245 (by decide +kernel) (by decide +kernel))) (fun _ h9 => h9) rfl hin rfl (by decide +kernel) rfl rfl (Nat.le_of_ble_eq_true rfl) dX4_init_19 (fun H locs hP hD hS => ?_)
  have hP : va_P D zcl ((h0, .inr (4, [.ref q0, .ref q1, .null, .int 0, .int 0])) :: (([] ++ [(q0, .inl (ct 0, 313, .inl (fun _ => 0)))]) ++ [(q1, .inl (ct 0, 1565, .inl (fun _ => 0)))])) H := hP
  have hD : va_D A ((h0, .inr (4, [.ref q0, .ref q1, .null, .int 0, .int 0])) :: (([] ++ [(q0, .inl (ct 0, 313, .inl (fun _ => 0)))]) ++ [(q1, .inl (ct 0, 1565, .inl (fun _ => 0)))])) := hD
  refine lv_aload_n hx hb dX4_init_22 rfl (lv_at hl 0 rfl) ?_
  refine lv_sipush hx hb dX4_init_23 rfl ?_
  refine zi_arr (atype := .long) (a0 := (1565, .inr (.inl (fun _ => 0)))) (N' := 1565) hx hb 2 rfl rfl (hts _ ha_long) hK hP hD hS hA (fun _ => rfl) (by decide) rfl (Nat.le_of_ble_eq_true rfl) (Nat.le_of_ble_eq_true rfl) (Nat.le_of_ble_eq_true rfl) dX4_init_26 (fun q2 H hP hD hS => ?_)
  have hP : va_P D zcl ((h0, .inr (4, [.ref q0, .ref q1, .null, .int 0, .int 0])) :: ((([] ++ [(q0, .inl (ct 0, 313, .inl (fun _ => 0)))]) ++ [(q1, .inl (ct 0, 1565, .inl (fun _ => 0)))]) ++ [(q2, .inl (ct 2, 1565, .inr (.inl (fun _ => 0))))])) H := hP
  have hD : va_D A ((h0, .inr (4, [.ref q0, .ref q1, .null, .int 0, .int 0])) :: ((([] ++ [(q0, .inl (ct 0, 313, .inl (fun _ => 0)))]) ++ [(q1, .inl (ct 0, 1565, .inl (fun _ => 0)))]) ++ [(q2, .inl (ct 2, 1565, .inr (.inl (fun _ => 0))))])) := hD
  refine va_putF (D := D) (ci := 4) (v := .ref q2) (ty := .array .long) (C := RX4) (T := TX4) (N := 5) hx hb hts hi_X4 tyX4 tyX4_ok nmX4 hown hK hP hD hS 0 rfl rfl 2 (by decide) (hts (.fieldLink RX4 18 "PenLines$OpenReadings" "rests" "[J") (zin 246 (by decide +kernel) (by decide +kernel))) (fun _ h9 => h9) rfl hin rfl (by decide +kernel) rfl rfl (Nat.le_of_ble_eq_true rfl) dX4_init_28 (fun H locs hP hD hS => ?_)
  have hP : va_P D zcl ((h0, .inr (4, [.ref q0, .ref q1, .ref q2, .int 0, .int 0])) :: ((([] ++ [(q0, .inl (ct 0, 313, .inl (fun _ => 0)))]) ++ [(q1, .inl (ct 0, 1565, .inl (fun _ => 0)))]) ++ [(q2, .inl (ct 2, 1565, .inr (.inl (fun _ => 0))))])) H := hP
  have hD : va_D A ((h0, .inr (4, [.ref q0, .ref q1, .ref q2, .int 0, .int 0])) :: ((([] ++ [(q0, .inl (ct 0, 313, .inl (fun _ => 0)))]) ++ [(q1, .inl (ct 0, 1565, .inl (fun _ => 0)))]) ++ [(q2, .inl (ct 2, 1565, .inr (.inl (fun _ => 0))))])) := hD
  refine lv_aload_n hx hb dX4_init_31 rfl (lv_at hl 0 rfl) ?_
  refine lv_iconst (v := (0)) hx hb dX4_init_32 (by decide) ?_
  refine va_put (D := D) (ci := 4) (v := .int 0) (ty := .int) (C := RX4) (T := TX4) (N := 5) hx hb hts hi_X4 tyX4 tyX4_ok nmX4 hown hK hP hD hS 0 rfl rfl 3 (by decide) (hts (.fieldLink RX4 22 "PenLines$OpenReadings" "pieces" "I") (zin 247 (by decide +kernel) (by decide +kernel))) (fun _ h9 => h9) rfl (by decide +kernel) rfl rfl (Nat.le_of_ble_eq_true rfl) dX4_init_33 (fun H locs hP hD hS => ?_)
  have hP : va_P D zcl ((h0, .inr (4, [.ref q0, .ref q1, .ref q2, .int 0, .int 0])) :: ((([] ++ [(q0, .inl (ct 0, 313, .inl (fun _ => 0)))]) ++ [(q1, .inl (ct 0, 1565, .inl (fun _ => 0)))]) ++ [(q2, .inl (ct 2, 1565, .inr (.inl (fun _ => 0))))])) H := hP
  have hD : va_D A ((h0, .inr (4, [.ref q0, .ref q1, .ref q2, .int 0, .int 0])) :: ((([] ++ [(q0, .inl (ct 0, 313, .inl (fun _ => 0)))]) ++ [(q1, .inl (ct 0, 1565, .inl (fun _ => 0)))]) ++ [(q2, .inl (ct 2, 1565, .inr (.inl (fun _ => 0))))])) := hD
  refine lv_aload_n hx hb dX4_init_36 rfl (lv_at hl 0 rfl) ?_
  refine lv_iconst (v := (0)) hx hb dX4_init_37 (by decide) ?_
  refine va_put (D := D) (ci := 4) (v := .int 0) (ty := .int) (C := RX4) (T := TX4) (N := 5) hx hb hts hi_X4 tyX4 tyX4_ok nmX4 hown hK hP hD hS 0 rfl rfl 4 (by decide) (hts (.fieldLink RX4 26 "PenLines$OpenReadings" "toSave" "I") (zin 248 (by decide +kernel) (by decide +kernel))) (fun _ h9 => h9) rfl (by decide +kernel) rfl rfl (Nat.le_of_ble_eq_true rfl) dX4_init_38 (fun H locs hP hD hS => ?_)
  have hP : va_P D zcl ((h0, .inr (4, [.ref q0, .ref q1, .ref q2, .int 0, .int 0])) :: ((([] ++ [(q0, .inl (ct 0, 313, .inl (fun _ => 0)))]) ++ [(q1, .inl (ct 0, 1565, .inl (fun _ => 0)))]) ++ [(q2, .inl (ct 2, 1565, .inr (.inl (fun _ => 0))))])) H := hP
  have hD : va_D A ((h0, .inr (4, [.ref q0, .ref q1, .ref q2, .int 0, .int 0])) :: ((([] ++ [(q0, .inl (ct 0, 313, .inl (fun _ => 0)))]) ++ [(q1, .inl (ct 0, 1565, .inl (fun _ => 0)))]) ++ [(q2, .inl (ct 2, 1565, .inr (.inl (fun _ => 0))))])) := hD
  exact ce _ _ _ _ _ _ _ ⟨q0, q1, q2, rfl, rfl⟩ hP hD hS (Nat.le_of_ble_eq_true rfl) (Nat.le_of_ble_eq_true rfl) dX4_init_41
abbrev cX6_init : ByteArray := prog_8_method_1_code
def yX6_init : MethodName := ⟨RX6, "<init>", "()V"⟩
theorem dX6_init_0 : decode cX6_init 0 = .ok (.aload_n 0, 1) := by decide +kernel
theorem dX6_init_1 : decode cX6_init 1 = .ok (.invokespecial 3, 3) := by decide +kernel
theorem dX6_init_4 : decode cX6_init 4 = .ok (.aload_n 0, 1) := by decide +kernel
theorem dX6_init_5 : decode cX6_init 5 = .ok (.sipush 195, 3) := by decide +kernel
theorem dX6_init_8 : decode cX6_init 8 = .ok (.newarray .int, 2) := by decide +kernel
theorem dX6_init_10 : decode cX6_init 10 = .ok (.putfield 11, 3) := by decide +kernel
theorem dX6_init_13 : decode cX6_init 13 = .ok (.aload_n 0, 1) := by decide +kernel
theorem dX6_init_14 : decode cX6_init 14 = .ok (.bipush 12, 2) := by decide +kernel
theorem dX6_init_16 : decode cX6_init 16 = .ok (.newarray .int, 2) := by decide +kernel
theorem dX6_init_18 : decode cX6_init 18 = .ok (.putfield 15, 3) := by decide +kernel
theorem dX6_init_21 : decode cX6_init 21 = .ok (.return_, 1) := by decide +kernel
def zX6_post : (Nat → ClassId) → Nat → List Value → va_W → Prop := fun ct _ fs ex => ∃ (q0 : Nat) (q1 : Nat), fs = [.ref q0, .ref q1] ∧ ex = (([] ++ [(q0, .inl (ct 0, 195, .inl (fun _ => 0)))]) ++ [(q1, .inl (ct 0, 12, .inl (fun _ => 0)))])
set_option maxHeartbeats 16000000 in
set_option maxRecDepth 100000 in
theorem c_X6_init : zCt yX6_init cX6_init 6 [.null, .null] ({ frames := 1, cells := 2, slots := 207, locals := 20 }) 2 207 zX6_post := by
  refine zct_of (by decide) rfl ?_
  intro p l e s m below meth c D ct h0 A ls Q cx ce
  obtain ⟨hx, hb, hml, hown, hts, hin, hK, hA, hP, hD, hS, hl, hN, hG⟩ := cx
  have hown : s.vm.findClass RX6 = some m.cls := hown
  refine lv_aload_n hx hb dX6_init_0 rfl (lv_at hl 0 rfl) ?_
  refine W.objInit hx hb hown (hts (.methodLink RX6 3 objectInit) (zin 265 (by decide +kernel) (by decide +kernel))) (hts _ ho_inst) (hts _ ho_code) rfl (by rw [hml]; exact hl.1) rfl dX6_init_1 (Nat.le_of_ble_eq_true rfl) (Nat.le_of_ble_eq_true rfl) ?_
  refine W.eq (g2 := F0 m 4 ls []) rfl ?_
  refine lv_aload_n hx hb dX6_init_4 rfl (lv_at hl 0 rfl) ?_
  refine lv_sipush hx hb dX6_init_5 rfl ?_
  refine zi_arr (atype := .int) (a0 := (195, .inl (fun _ => 0))) (N' := 195) hx hb 0 rfl rfl (hts _ ha_int) hK hP hD hS hA (fun _ => rfl) (by decide) rfl (Nat.le_of_ble_eq_true rfl) (Nat.le_of_ble_eq_true rfl) (Nat.le_of_ble_eq_true rfl) dX6_init_8 (fun q0 H hP hD hS => ?_)
  have hP : va_P D zcl ((h0, .inr (6, [.null, .null])) :: ([] ++ [(q0, .inl (ct 0, 195, .inl (fun _ => 0)))])) H := hP
  have hD : va_D A ((h0, .inr (6, [.null, .null])) :: ([] ++ [(q0, .inl (ct 0, 195, .inl (fun _ => 0)))])) := hD
  refine va_putF (D := D) (ci := 6) (v := .ref q0) (ty := .array .int) (C := RX6) (T := TX6) (N := 2) hx hb hts hi_X6 tyX6 tyX6_ok nmX6 hown hK hP hD hS 0 rfl rfl 0 (by decide) (hts (.fieldLink RX6 11 "PenLines$Spelling" "least" "[I") (zin 266 (by decide +kernel) (by decide +kernel))) (fun _ h9 => h9) rfl hin rfl (by decide +kernel) rfl rfl (Nat.le_of_ble_eq_true rfl) dX6_init_10 (fun H locs hP hD hS => ?_)
  have hP : va_P D zcl ((h0, .inr (6, [.ref q0, .null])) :: ([] ++ [(q0, .inl (ct 0, 195, .inl (fun _ => 0)))])) H := hP
  have hD : va_D A ((h0, .inr (6, [.ref q0, .null])) :: ([] ++ [(q0, .inl (ct 0, 195, .inl (fun _ => 0)))])) := hD
  refine lv_aload_n hx hb dX6_init_13 rfl (lv_at hl 0 rfl) ?_
  refine lv_bipush hx hb dX6_init_14 rfl ?_
  refine zi_arr (atype := .int) (a0 := (12, .inl (fun _ => 0))) (N' := 12) hx hb 0 rfl rfl (hts _ ha_int) hK hP hD hS hA (fun _ => rfl) (by decide) rfl (Nat.le_of_ble_eq_true rfl) (Nat.le_of_ble_eq_true rfl) (Nat.le_of_ble_eq_true rfl) dX6_init_16 (fun q1 H hP hD hS => ?_)
  have hP : va_P D zcl ((h0, .inr (6, [.ref q0, .null])) :: (([] ++ [(q0, .inl (ct 0, 195, .inl (fun _ => 0)))]) ++ [(q1, .inl (ct 0, 12, .inl (fun _ => 0)))])) H := hP
  have hD : va_D A ((h0, .inr (6, [.ref q0, .null])) :: (([] ++ [(q0, .inl (ct 0, 195, .inl (fun _ => 0)))]) ++ [(q1, .inl (ct 0, 12, .inl (fun _ => 0)))])) := hD
  refine va_putF (D := D) (ci := 6) (v := .ref q1) (ty := .array .int) (C := RX6) (T := TX6) (N := 2) hx hb hts hi_X6 tyX6 tyX6_ok nmX6 hown hK hP hD hS 0 rfl rfl 1 (by decide) (hts (.fieldLink RX6 15 "PenLines$Spelling" "rows" "[I") (zin 267 (by decide +kernel) (by decide +kernel))) (fun _ h9 => h9) rfl hin rfl (by decide +kernel) rfl rfl (Nat.le_of_ble_eq_true rfl) dX6_init_18 (fun H locs hP hD hS => ?_)
  have hP : va_P D zcl ((h0, .inr (6, [.ref q0, .ref q1])) :: (([] ++ [(q0, .inl (ct 0, 195, .inl (fun _ => 0)))]) ++ [(q1, .inl (ct 0, 12, .inl (fun _ => 0)))])) H := hP
  have hD : va_D A ((h0, .inr (6, [.ref q0, .ref q1])) :: (([] ++ [(q0, .inl (ct 0, 195, .inl (fun _ => 0)))]) ++ [(q1, .inl (ct 0, 12, .inl (fun _ => 0)))])) := hD
  exact ce _ _ _ _ _ _ _ ⟨q0, q1, rfl, rfl⟩ hP hD hS (Nat.le_of_ble_eq_true rfl) (Nat.le_of_ble_eq_true rfl) dX6_init_21
abbrev cX7_init : ByteArray := prog_9_method_1_code
def yX7_init : MethodName := ⟨RX7, "<init>", "()V"⟩
theorem dX7_init_0 : decode cX7_init 0 = .ok (.aload_n 0, 1) := by decide +kernel
theorem dX7_init_1 : decode cX7_init 1 = .ok (.invokespecial 3, 3) := by decide +kernel
theorem dX7_init_4 : decode cX7_init 4 = .ok (.aload_n 0, 1) := by decide +kernel
theorem dX7_init_5 : decode cX7_init 5 = .ok (.lconst 0, 1) := by decide +kernel
theorem dX7_init_6 : decode cX7_init 6 = .ok (.putfield 9, 3) := by decide +kernel
theorem dX7_init_9 : decode cX7_init 9 = .ok (.aload_n 0, 1) := by decide +kernel
theorem dX7_init_10 : decode cX7_init 10 = .ok (.iconst 0, 1) := by decide +kernel
theorem dX7_init_11 : decode cX7_init 11 = .ok (.putfield 15, 3) := by decide +kernel
theorem dX7_init_14 : decode cX7_init 14 = .ok (.aload_n 0, 1) := by decide +kernel
theorem dX7_init_15 : decode cX7_init 15 = .ok (.bipush 30, 2) := by decide +kernel
theorem dX7_init_17 : decode cX7_init 17 = .ok (.newarray .long, 2) := by decide +kernel
theorem dX7_init_19 : decode cX7_init 19 = .ok (.putfield 19, 3) := by decide +kernel
theorem dX7_init_22 : decode cX7_init 22 = .ok (.aload_n 0, 1) := by decide +kernel
theorem dX7_init_23 : decode cX7_init 23 = .ok (.iconst 0, 1) := by decide +kernel
theorem dX7_init_24 : decode cX7_init 24 = .ok (.putfield 23, 3) := by decide +kernel
theorem dX7_init_27 : decode cX7_init 27 = .ok (.return_, 1) := by decide +kernel
def zX7_post : (Nat → ClassId) → Nat → List Value → va_W → Prop := fun ct _ fs ex => ∃ (q0 : Nat), fs = [.long 0, .int 0, .ref q0, .int 0] ∧ ex = ([] ++ [(q0, .inl (ct 2, 30, .inr (.inl (fun _ => 0))))])
set_option maxHeartbeats 16000000 in
set_option maxRecDepth 100000 in
theorem c_X7_init : zCt yX7_init cX7_init 7 [.long 0, .int 0, .null, .int 0] ({ frames := 1, cells := 1, slots := 30, locals := 20 }) 1 30 zX7_post := by
  refine zct_of (by decide) rfl ?_
  intro p l e s m below meth c D ct h0 A ls Q cx ce
  obtain ⟨hx, hb, hml, hown, hts, hin, hK, hA, hP, hD, hS, hl, hN, hG⟩ := cx
  have hown : s.vm.findClass RX7 = some m.cls := hown
  refine lv_aload_n hx hb dX7_init_0 rfl (lv_at hl 0 rfl) ?_
  refine W.objInit hx hb hown (hts (.methodLink RX7 3 objectInit) (zin 202 (by decide +kernel) (by decide +kernel))) (hts _ ho_inst) (hts _ ho_code) rfl (by rw [hml]; exact hl.1) rfl dX7_init_1 (Nat.le_of_ble_eq_true rfl) (Nat.le_of_ble_eq_true rfl) ?_
  refine W.eq (g2 := F0 m 4 ls []) rfl ?_
  refine lv_aload_n hx hb dX7_init_4 rfl (lv_at hl 0 rfl) ?_
  refine lv_lconst (v := 0) hx hb dX7_init_5 (by decide) ?_
  refine va_put (D := D) (ci := 7) (v := .long 0) (ty := .long) (C := RX7) (T := TX7) (N := 4) hx hb hts hi_X7 tyX7 tyX7_ok nmX7 hown hK hP hD hS 0 rfl rfl 0 (by decide) (hts (.fieldLink RX7 9 "PenLines$Words" "word" "J") (zin 203 (by decide +kernel) (by decide +kernel))) (fun _ h9 => h9) rfl (by decide +kernel) rfl rfl (Nat.le_of_ble_eq_true rfl) dX7_init_6 (fun H locs hP hD hS => ?_)
  have hP : va_P D zcl ((h0, .inr (7, [.long 0, .int 0, .null, .int 0])) :: []) H := hP
  have hD : va_D A ((h0, .inr (7, [.long 0, .int 0, .null, .int 0])) :: []) := hD
  refine lv_aload_n hx hb dX7_init_9 rfl (lv_at hl 0 rfl) ?_
  refine lv_iconst (v := (0)) hx hb dX7_init_10 (by decide) ?_
  refine va_put (D := D) (ci := 7) (v := .int 0) (ty := .int) (C := RX7) (T := TX7) (N := 4) hx hb hts hi_X7 tyX7 tyX7_ok nmX7 hown hK hP hD hS 0 rfl rfl 1 (by decide) (hts (.fieldLink RX7 15 "PenLines$Words" "letters" "I") (zin 205 (by decide +kernel) (by decide +kernel))) (fun _ h9 => h9) rfl (by decide +kernel) rfl rfl (Nat.le_of_ble_eq_true rfl) dX7_init_11 (fun H locs hP hD hS => ?_)
  have hP : va_P D zcl ((h0, .inr (7, [.long 0, .int 0, .null, .int 0])) :: []) H := hP
  have hD : va_D A ((h0, .inr (7, [.long 0, .int 0, .null, .int 0])) :: []) := hD
  refine lv_aload_n hx hb dX7_init_14 rfl (lv_at hl 0 rfl) ?_
  refine lv_bipush hx hb dX7_init_15 rfl ?_
  refine zi_arr (atype := .long) (a0 := (30, .inr (.inl (fun _ => 0)))) (N' := 30) hx hb 2 rfl rfl (hts _ ha_long) hK hP hD hS hA (fun _ => rfl) (by decide) rfl (Nat.le_of_ble_eq_true rfl) (Nat.le_of_ble_eq_true rfl) (Nat.le_of_ble_eq_true rfl) dX7_init_17 (fun q0 H hP hD hS => ?_)
  have hP : va_P D zcl ((h0, .inr (7, [.long 0, .int 0, .null, .int 0])) :: ([] ++ [(q0, .inl (ct 2, 30, .inr (.inl (fun _ => 0))))])) H := hP
  have hD : va_D A ((h0, .inr (7, [.long 0, .int 0, .null, .int 0])) :: ([] ++ [(q0, .inl (ct 2, 30, .inr (.inl (fun _ => 0))))])) := hD
  refine va_putF (D := D) (ci := 7) (v := .ref q0) (ty := .array .long) (C := RX7) (T := TX7) (N := 4) hx hb hts hi_X7 tyX7 tyX7_ok nmX7 hown hK hP hD hS 0 rfl rfl 2 (by decide) (hts (.fieldLink RX7 19 "PenLines$Words" "inList" "[J") (zin 207 (by decide +kernel) (by decide +kernel))) (fun _ h9 => h9) rfl hin rfl (by decide +kernel) rfl rfl (Nat.le_of_ble_eq_true rfl) dX7_init_19 (fun H locs hP hD hS => ?_)
  have hP : va_P D zcl ((h0, .inr (7, [.long 0, .int 0, .ref q0, .int 0])) :: ([] ++ [(q0, .inl (ct 2, 30, .inr (.inl (fun _ => 0))))])) H := hP
  have hD : va_D A ((h0, .inr (7, [.long 0, .int 0, .ref q0, .int 0])) :: ([] ++ [(q0, .inl (ct 2, 30, .inr (.inl (fun _ => 0))))])) := hD
  refine lv_aload_n hx hb dX7_init_22 rfl (lv_at hl 0 rfl) ?_
  refine lv_iconst (v := (0)) hx hb dX7_init_23 (by decide) ?_
  refine va_put (D := D) (ci := 7) (v := .int 0) (ty := .int) (C := RX7) (T := TX7) (N := 4) hx hb hts hi_X7 tyX7 tyX7_ok nmX7 hown hK hP hD hS 0 rfl rfl 3 (by decide) (hts (.fieldLink RX7 23 "PenLines$Words" "listMany" "I") (zin 210 (by decide +kernel) (by decide +kernel))) (fun _ h9 => h9) rfl (by decide +kernel) rfl rfl (Nat.le_of_ble_eq_true rfl) dX7_init_24 (fun H locs hP hD hS => ?_)
  have hP : va_P D zcl ((h0, .inr (7, [.long 0, .int 0, .ref q0, .int 0])) :: ([] ++ [(q0, .inl (ct 2, 30, .inr (.inl (fun _ => 0))))])) H := hP
  have hD : va_D A ((h0, .inr (7, [.long 0, .int 0, .ref q0, .int 0])) :: ([] ++ [(q0, .inl (ct 2, 30, .inr (.inl (fun _ => 0))))])) := hD
  exact ce _ _ _ _ _ _ _ ⟨q0, rfl, rfl⟩ hP hD hS (Nat.le_of_ble_eq_true rfl) (Nat.le_of_ble_eq_true rfl) dX7_init_27
abbrev cX5_init : ByteArray := prog_7_method_1_code
def yX5_init : MethodName := ⟨RX5, "<init>", "()V"⟩
theorem dX5_init_0 : decode cX5_init 0 = .ok (.aload_n 0, 1) := by decide +kernel
theorem dX5_init_1 : decode cX5_init 1 = .ok (.invokespecial 3, 3) := by decide +kernel
theorem dX5_init_4 : decode cX5_init 4 = .ok (.aload_n 0, 1) := by decide +kernel
theorem dX5_init_5 : decode cX5_init 5 = .ok (.bipush 8, 2) := by decide +kernel
theorem dX5_init_7 : decode cX5_init 7 = .ok (.newarray .boolean, 2) := by decide +kernel
theorem dX5_init_9 : decode cX5_init 9 = .ok (.putfield 9, 3) := by decide +kernel
theorem dX5_init_12 : decode cX5_init 12 = .ok (.aload_n 0, 1) := by decide +kernel
theorem dX5_init_13 : decode cX5_init 13 = .ok (.bipush 8, 2) := by decide +kernel
theorem dX5_init_15 : decode cX5_init 15 = .ok (.newarray .int, 2) := by decide +kernel
theorem dX5_init_17 : decode cX5_init 17 = .ok (.putfield 15, 3) := by decide +kernel
theorem dX5_init_20 : decode cX5_init 20 = .ok (.aload_n 0, 1) := by decide +kernel
theorem dX5_init_21 : decode cX5_init 21 = .ok (.bipush 8, 2) := by decide +kernel
theorem dX5_init_23 : decode cX5_init 23 = .ok (.newarray .int, 2) := by decide +kernel
theorem dX5_init_25 : decode cX5_init 25 = .ok (.putfield 19, 3) := by decide +kernel
theorem dX5_init_28 : decode cX5_init 28 = .ok (.aload_n 0, 1) := by decide +kernel
theorem dX5_init_29 : decode cX5_init 29 = .ok (.bipush 8, 2) := by decide +kernel
theorem dX5_init_31 : decode cX5_init 31 = .ok (.bipush 80, 2) := by decide +kernel
theorem dX5_init_33 : decode cX5_init 33 = .ok (.multianewarray 22 2, 4) := by decide +kernel
theorem dX5_init_37 : decode cX5_init 37 = .ok (.putfield 24, 3) := by decide +kernel
theorem dX5_init_40 : decode cX5_init 40 = .ok (.return_, 1) := by decide +kernel
def zX5_post : (Nat → ClassId) → Nat → List Value → va_W → Prop := fun ct _ fs ex => ∃ (q0 : Nat) (q1 : Nat) (q2 : Nat) (q3 : Nat), fs = [.ref q0, .ref q1, .ref q2, .ref q3] ∧ ex = (((([] ++ [(q0, .inl (ct 1, 8, .inl (fun _ => 0)))]) ++ [(q1, .inl (ct 0, 8, .inl (fun _ => 0)))]) ++ [(q2, .inl (ct 0, 8, .inl (fun _ => 0)))]) ++ zrl ct q3)
set_option maxHeartbeats 16000000 in
set_option maxRecDepth 100000 in
theorem c_X5_init : zCt yX5_init cX5_init 5 [.null, .null, .null, .null] ({ frames := 1, cells := 12, slots := 672, locals := 20 }) 12 672 zX5_post := by
  refine zct_of (by decide) rfl ?_
  intro p l e s m below meth c D ct h0 A ls Q cx ce
  obtain ⟨hx, hb, hml, hown, hts, hin, hK, hA, hP, hD, hS, hl, hN, hG⟩ := cx
  have hown : s.vm.findClass RX5 = some m.cls := hown
  refine lv_aload_n hx hb dX5_init_0 rfl (lv_at hl 0 rfl) ?_
  refine W.objInit hx hb hown (hts (.methodLink RX5 3 objectInit) (zin 81 (by decide +kernel) (by decide +kernel))) (hts _ ho_inst) (hts _ ho_code) rfl (by rw [hml]; exact hl.1) rfl dX5_init_1 (Nat.le_of_ble_eq_true rfl) (Nat.le_of_ble_eq_true rfl) ?_
  refine W.eq (g2 := F0 m 4 ls []) rfl ?_
  refine lv_aload_n hx hb dX5_init_4 rfl (lv_at hl 0 rfl) ?_
  refine lv_bipush hx hb dX5_init_5 rfl ?_
  refine zi_arr (atype := .boolean) (a0 := (8, .inl (fun _ => 0))) (N' := 8) hx hb 1 rfl rfl (hts _ ha_boolean) hK hP hD hS hA (fun _ => rfl) (by decide) rfl (Nat.le_of_ble_eq_true rfl) (Nat.le_of_ble_eq_true rfl) (Nat.le_of_ble_eq_true rfl) dX5_init_7 (fun q0 H hP hD hS => ?_)
  have hP : va_P D zcl ((h0, .inr (5, [.null, .null, .null, .null])) :: ([] ++ [(q0, .inl (ct 1, 8, .inl (fun _ => 0)))])) H := hP
  have hD : va_D A ((h0, .inr (5, [.null, .null, .null, .null])) :: ([] ++ [(q0, .inl (ct 1, 8, .inl (fun _ => 0)))])) := hD
  refine va_putF (D := D) (ci := 5) (v := .ref q0) (ty := .array .boolean) (C := RX5) (T := TX5) (N := 4) hx hb hts hi_X5 tyX5 tyX5_ok nmX5 hown hK hP hD hS 0 rfl rfl 0 (by decide) (hts (.fieldLink RX5 9 "PenLines$Sheets" "laid" "[Z") (zin 84 (by decide +kernel) (by decide +kernel))) (fun _ h9 => h9) rfl hin rfl (by decide +kernel) rfl rfl (Nat.le_of_ble_eq_true rfl) dX5_init_9 (fun H locs hP hD hS => ?_)
  have hP : va_P D zcl ((h0, .inr (5, [.ref q0, .null, .null, .null])) :: ([] ++ [(q0, .inl (ct 1, 8, .inl (fun _ => 0)))])) H := hP
  have hD : va_D A ((h0, .inr (5, [.ref q0, .null, .null, .null])) :: ([] ++ [(q0, .inl (ct 1, 8, .inl (fun _ => 0)))])) := hD
  refine lv_aload_n hx hb dX5_init_12 rfl (lv_at hl 0 rfl) ?_
  refine lv_bipush hx hb dX5_init_13 rfl ?_
  refine zi_arr (atype := .int) (a0 := (8, .inl (fun _ => 0))) (N' := 8) hx hb 0 rfl rfl (hts _ ha_int) hK hP hD hS hA (fun _ => rfl) (by decide) rfl (Nat.le_of_ble_eq_true rfl) (Nat.le_of_ble_eq_true rfl) (Nat.le_of_ble_eq_true rfl) dX5_init_15 (fun q1 H hP hD hS => ?_)
  have hP : va_P D zcl ((h0, .inr (5, [.ref q0, .null, .null, .null])) :: (([] ++ [(q0, .inl (ct 1, 8, .inl (fun _ => 0)))]) ++ [(q1, .inl (ct 0, 8, .inl (fun _ => 0)))])) H := hP
  have hD : va_D A ((h0, .inr (5, [.ref q0, .null, .null, .null])) :: (([] ++ [(q0, .inl (ct 1, 8, .inl (fun _ => 0)))]) ++ [(q1, .inl (ct 0, 8, .inl (fun _ => 0)))])) := hD
  refine va_putF (D := D) (ci := 5) (v := .ref q1) (ty := .array .int) (C := RX5) (T := TX5) (N := 4) hx hb hts hi_X5 tyX5 tyX5_ok nmX5 hown hK hP hD hS 0 rfl rfl 1 (by decide) (hts (.fieldLink RX5 15 "PenLines$Sheets" "lanes" "[I") (zin 86 (by decide +kernel) (by decide +kernel))) (fun _ h9 => h9) rfl hin rfl (by decide +kernel) rfl rfl (Nat.le_of_ble_eq_true rfl) dX5_init_17 (fun H locs hP hD hS => ?_)
  have hP : va_P D zcl ((h0, .inr (5, [.ref q0, .ref q1, .null, .null])) :: (([] ++ [(q0, .inl (ct 1, 8, .inl (fun _ => 0)))]) ++ [(q1, .inl (ct 0, 8, .inl (fun _ => 0)))])) H := hP
  have hD : va_D A ((h0, .inr (5, [.ref q0, .ref q1, .null, .null])) :: (([] ++ [(q0, .inl (ct 1, 8, .inl (fun _ => 0)))]) ++ [(q1, .inl (ct 0, 8, .inl (fun _ => 0)))])) := hD
  refine lv_aload_n hx hb dX5_init_20 rfl (lv_at hl 0 rfl) ?_
  refine lv_bipush hx hb dX5_init_21 rfl ?_
  refine zi_arr (atype := .int) (a0 := (8, .inl (fun _ => 0))) (N' := 8) hx hb 0 rfl rfl (hts _ ha_int) hK hP hD hS hA (fun _ => rfl) (by decide) rfl (Nat.le_of_ble_eq_true rfl) (Nat.le_of_ble_eq_true rfl) (Nat.le_of_ble_eq_true rfl) dX5_init_23 (fun q2 H hP hD hS => ?_)
  have hP : va_P D zcl ((h0, .inr (5, [.ref q0, .ref q1, .null, .null])) :: ((([] ++ [(q0, .inl (ct 1, 8, .inl (fun _ => 0)))]) ++ [(q1, .inl (ct 0, 8, .inl (fun _ => 0)))]) ++ [(q2, .inl (ct 0, 8, .inl (fun _ => 0)))])) H := hP
  have hD : va_D A ((h0, .inr (5, [.ref q0, .ref q1, .null, .null])) :: ((([] ++ [(q0, .inl (ct 1, 8, .inl (fun _ => 0)))]) ++ [(q1, .inl (ct 0, 8, .inl (fun _ => 0)))]) ++ [(q2, .inl (ct 0, 8, .inl (fun _ => 0)))])) := hD
  refine va_putF (D := D) (ci := 5) (v := .ref q2) (ty := .array .int) (C := RX5) (T := TX5) (N := 4) hx hb hts hi_X5 tyX5 tyX5_ok nmX5 hown hK hP hD hS 0 rfl rfl 2 (by decide) (hts (.fieldLink RX5 19 "PenLines$Sheets" "sizes" "[I") (zin 88 (by decide +kernel) (by decide +kernel))) (fun _ h9 => h9) rfl hin rfl (by decide +kernel) rfl rfl (Nat.le_of_ble_eq_true rfl) dX5_init_25 (fun H locs hP hD hS => ?_)
  have hP : va_P D zcl ((h0, .inr (5, [.ref q0, .ref q1, .ref q2, .null])) :: ((([] ++ [(q0, .inl (ct 1, 8, .inl (fun _ => 0)))]) ++ [(q1, .inl (ct 0, 8, .inl (fun _ => 0)))]) ++ [(q2, .inl (ct 0, 8, .inl (fun _ => 0)))])) H := hP
  have hD : va_D A ((h0, .inr (5, [.ref q0, .ref q1, .ref q2, .null])) :: ((([] ++ [(q0, .inl (ct 1, 8, .inl (fun _ => 0)))]) ++ [(q1, .inl (ct 0, 8, .inl (fun _ => 0)))]) ++ [(q2, .inl (ct 0, 8, .inl (fun _ => 0)))])) := hD
  refine lv_aload_n hx hb dX5_init_28 rfl (lv_at hl 0 rfl) ?_
  refine lv_bipush hx hb dX5_init_29 rfl ?_
  refine lv_bipush hx hb dX5_init_31 rfl ?_
  refine zi_rows hx hb hown (hts (.classLink RX5 22 "[[I") (zin 82 (by decide +kernel) (by decide +kernel))) hG (hts _ ha_int) hK hP hD hS hA (Nat.le_of_ble_eq_true rfl) (Nat.le_of_ble_eq_true rfl) dX5_init_33 (fun q3 H hP hD hS => ?_)
  have hP : va_P D zcl ((h0, .inr (5, [.ref q0, .ref q1, .ref q2, .null])) :: (((([] ++ [(q0, .inl (ct 1, 8, .inl (fun _ => 0)))]) ++ [(q1, .inl (ct 0, 8, .inl (fun _ => 0)))]) ++ [(q2, .inl (ct 0, 8, .inl (fun _ => 0)))]) ++ zrl ct q3)) H := hP
  have hD : va_D A ((h0, .inr (5, [.ref q0, .ref q1, .ref q2, .null])) :: (((([] ++ [(q0, .inl (ct 1, 8, .inl (fun _ => 0)))]) ++ [(q1, .inl (ct 0, 8, .inl (fun _ => 0)))]) ++ [(q2, .inl (ct 0, 8, .inl (fun _ => 0)))]) ++ zrl ct q3)) := hD
  refine va_putF (D := D) (ci := 5) (v := .ref q3) (ty := .array (.array .int)) (C := RX5) (T := TX5) (N := 4) hx hb hts hi_X5 tyX5 tyX5_ok nmX5 hown hK hP hD hS 0 rfl rfl 3 (by decide) (hts (.fieldLink RX5 24 "PenLines$Sheets" "items" "[[I") (zin 90 (by decide +kernel) (by decide +kernel))) (fun _ h9 => h9) rfl hin rfl (by decide +kernel) rfl rfl (Nat.le_of_ble_eq_true rfl) dX5_init_37 (fun H locs hP hD hS => ?_)
  have hP : va_P D zcl ((h0, .inr (5, [.ref q0, .ref q1, .ref q2, .ref q3])) :: (((([] ++ [(q0, .inl (ct 1, 8, .inl (fun _ => 0)))]) ++ [(q1, .inl (ct 0, 8, .inl (fun _ => 0)))]) ++ [(q2, .inl (ct 0, 8, .inl (fun _ => 0)))]) ++ zrl ct q3)) H := hP
  have hD : va_D A ((h0, .inr (5, [.ref q0, .ref q1, .ref q2, .ref q3])) :: (((([] ++ [(q0, .inl (ct 1, 8, .inl (fun _ => 0)))]) ++ [(q1, .inl (ct 0, 8, .inl (fun _ => 0)))]) ++ [(q2, .inl (ct 0, 8, .inl (fun _ => 0)))]) ++ zrl ct q3)) := hD
  exact ce _ _ _ _ _ _ _ ⟨q0, q1, q2, q3, rfl, rfl⟩ hP hD hS (Nat.le_of_ble_eq_true rfl) (Nat.le_of_ble_eq_true rfl) dX5_init_40
