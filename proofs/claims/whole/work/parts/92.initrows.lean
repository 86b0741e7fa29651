/-! the model's constructor: its rows -/
abbrev cX9_init : ByteArray := prog_11_method_1_code
def yX9_init : MethodName := ⟨RX9, "<init>", "()V"⟩
theorem dX9_init_0 : decode cX9_init 0 = .ok (.aload_n 0, 1) := by decide +kernel
theorem dX9_init_1 : decode cX9_init 1 = .ok (.invokespecial 1, 3) := by decide +kernel
theorem dX9_init_4 : decode cX9_init 4 = .ok (.aload_n 0, 1) := by decide +kernel
theorem dX9_init_5 : decode cX9_init 5 = .ok (.bipush 8, 2) := by decide +kernel
theorem dX9_init_7 : decode cX9_init 7 = .ok (.newarray .int, 2) := by decide +kernel
theorem dX9_init_9 : decode cX9_init 9 = .ok (.putfield 7, 3) := by decide +kernel
theorem dX9_init_12 : decode cX9_init 12 = .ok (.aload_n 0, 1) := by decide +kernel
theorem dX9_init_13 : decode cX9_init 13 = .ok (.bipush 8, 2) := by decide +kernel
theorem dX9_init_15 : decode cX9_init 15 = .ok (.newarray .int, 2) := by decide +kernel
theorem dX9_init_17 : decode cX9_init 17 = .ok (.putfield 13, 3) := by decide +kernel
theorem dX9_init_20 : decode cX9_init 20 = .ok (.aload_n 0, 1) := by decide +kernel
theorem dX9_init_21 : decode cX9_init 21 = .ok (.sipush 640, 3) := by decide +kernel
theorem dX9_init_24 : decode cX9_init 24 = .ok (.newarray .int, 2) := by decide +kernel
theorem dX9_init_26 : decode cX9_init 26 = .ok (.putfield 16, 3) := by decide +kernel
theorem dX9_init_29 : decode cX9_init 29 = .ok (.aload_n 0, 1) := by decide +kernel
theorem dX9_init_30 : decode cX9_init 30 = .ok (.bipush 80, 2) := by decide +kernel
theorem dX9_init_32 : decode cX9_init 32 = .ok (.newarray .int, 2) := by decide +kernel
theorem dX9_init_34 : decode cX9_init 34 = .ok (.putfield 19, 3) := by decide +kernel
theorem dX9_init_37 : decode cX9_init 37 = .ok (.aload_n 0, 1) := by decide +kernel
theorem dX9_init_38 : decode cX9_init 38 = .ok (.bipush 40, 2) := by decide +kernel
theorem dX9_init_40 : decode cX9_init 40 = .ok (.newarray .int, 2) := by decide +kernel
theorem dX9_init_42 : decode cX9_init 42 = .ok (.putfield 22, 3) := by decide +kernel
theorem dX9_init_45 : decode cX9_init 45 = .ok (.aload_n 0, 1) := by decide +kernel
theorem dX9_init_46 : decode cX9_init 46 = .ok (.bipush 40, 2) := by decide +kernel
theorem dX9_init_48 : decode cX9_init 48 = .ok (.newarray .int, 2) := by decide +kernel
theorem dX9_init_50 : decode cX9_init 50 = .ok (.putfield 25, 3) := by decide +kernel
theorem dX9_init_53 : decode cX9_init 53 = .ok (.aload_n 0, 1) := by decide +kernel
theorem dX9_init_54 : decode cX9_init 54 = .ok (.bipush 40, 2) := by decide +kernel
theorem dX9_init_56 : decode cX9_init 56 = .ok (.newarray .int, 2) := by decide +kernel
theorem dX9_init_58 : decode cX9_init 58 = .ok (.putfield 28, 3) := by decide +kernel
theorem dX9_init_61 : decode cX9_init 61 = .ok (.aload_n 0, 1) := by decide +kernel
theorem dX9_init_62 : decode cX9_init 62 = .ok (.bipush 40, 2) := by decide +kernel
theorem dX9_init_64 : decode cX9_init 64 = .ok (.newarray .int, 2) := by decide +kernel
theorem dX9_init_66 : decode cX9_init 66 = .ok (.putfield 31, 3) := by decide +kernel
theorem dX9_init_69 : decode cX9_init 69 = .ok (.aload_n 0, 1) := by decide +kernel
theorem dX9_init_70 : decode cX9_init 70 = .ok (.bipush 30, 2) := by decide +kernel
theorem dX9_init_72 : decode cX9_init 72 = .ok (.putfield 34, 3) := by decide +kernel
theorem dX9_init_75 : decode cX9_init 75 = .ok (.aload_n 0, 1) := by decide +kernel
theorem dX9_init_76 : decode cX9_init 76 = .ok (.bipush 41, 2) := by decide +kernel
theorem dX9_init_78 : decode cX9_init 78 = .ok (.newarray .int, 2) := by decide +kernel
theorem dX9_init_80 : decode cX9_init 80 = .ok (.putfield 38, 3) := by decide +kernel
theorem dX9_init_83 : decode cX9_init 83 = .ok (.aload_n 0, 1) := by decide +kernel
theorem dX9_init_84 : decode cX9_init 84 = .ok (.bipush 40, 2) := by decide +kernel
theorem dX9_init_86 : decode cX9_init 86 = .ok (.newarray .int, 2) := by decide +kernel
theorem dX9_init_88 : decode cX9_init 88 = .ok (.putfield 41, 3) := by decide +kernel
theorem dX9_init_91 : decode cX9_init 91 = .ok (.aload_n 0, 1) := by decide +kernel
theorem dX9_init_92 : decode cX9_init 92 = .ok (.ldc 44, 2) := by decide +kernel
theorem dX9_init_94 : decode cX9_init 94 = .ok (.newarray .int, 2) := by decide +kernel
theorem dX9_init_96 : decode cX9_init 96 = .ok (.putfield 45, 3) := by decide +kernel
theorem dX9_init_99 : decode cX9_init 99 = .ok (.aload_n 0, 1) := by decide +kernel
theorem dX9_init_100 : decode cX9_init 100 = .ok (.sipush 12000, 3) := by decide +kernel
theorem dX9_init_103 : decode cX9_init 103 = .ok (.newarray .int, 2) := by decide +kernel
theorem dX9_init_105 : decode cX9_init 105 = .ok (.putfield 48, 3) := by decide +kernel
theorem dX9_init_108 : decode cX9_init 108 = .ok (.aload_n 0, 1) := by decide +kernel
theorem dX9_init_109 : decode cX9_init 109 = .ok (.sipush 12000, 3) := by decide +kernel
theorem dX9_init_112 : decode cX9_init 112 = .ok (.newarray .int, 2) := by decide +kernel
theorem dX9_init_114 : decode cX9_init 114 = .ok (.putfield 51, 3) := by decide +kernel
theorem dX9_init_117 : decode cX9_init 117 = .ok (.aload_n 0, 1) := by decide +kernel
theorem dX9_init_118 : decode cX9_init 118 = .ok (.bipush 50, 2) := by decide +kernel
theorem dX9_init_120 : decode cX9_init 120 = .ok (.newarray .int, 2) := by decide +kernel
theorem dX9_init_122 : decode cX9_init 122 = .ok (.putfield 54, 3) := by decide +kernel
theorem dX9_init_125 : decode cX9_init 125 = .ok (.aload_n 0, 1) := by decide +kernel
theorem dX9_init_126 : decode cX9_init 126 = .ok (.bipush 30, 2) := by decide +kernel
theorem dX9_init_128 : decode cX9_init 128 = .ok (.newarray .int, 2) := by decide +kernel
theorem dX9_init_130 : decode cX9_init 130 = .ok (.putfield 57, 3) := by decide +kernel
theorem dX9_init_133 : decode cX9_init 133 = .ok (.aload_n 0, 1) := by decide +kernel
theorem dX9_init_134 : decode cX9_init 134 = .ok (.sipush 360, 3) := by decide +kernel
theorem dX9_init_137 : decode cX9_init 137 = .ok (.newarray .int, 2) := by decide +kernel
theorem dX9_init_139 : decode cX9_init 139 = .ok (.putfield 60, 3) := by decide +kernel
theorem dX9_init_142 : decode cX9_init 142 = .ok (.aload_n 0, 1) := by decide +kernel
theorem dX9_init_143 : decode cX9_init 143 = .ok (.bipush 12, 2) := by decide +kernel
theorem dX9_init_145 : decode cX9_init 145 = .ok (.newarray .int, 2) := by decide +kernel
theorem dX9_init_147 : decode cX9_init 147 = .ok (.putfield 63, 3) := by decide +kernel
theorem dX9_init_150 : decode cX9_init 150 = .ok (.aload_n 0, 1) := by decide +kernel
theorem dX9_init_151 : decode cX9_init 151 = .ok (.bipush 16, 2) := by decide +kernel
theorem dX9_init_153 : decode cX9_init 153 = .ok (.newarray .int, 2) := by decide +kernel
theorem dX9_init_155 : decode cX9_init 155 = .ok (.putfield 66, 3) := by decide +kernel
theorem dX9_init_158 : decode cX9_init 158 = .ok (.aload_n 0, 1) := by decide +kernel
theorem dX9_init_159 : decode cX9_init 159 = .ok (.bipush 40, 2) := by decide +kernel
theorem dX9_init_161 : decode cX9_init 161 = .ok (.newarray .boolean, 2) := by decide +kernel
theorem dX9_init_163 : decode cX9_init 163 = .ok (.putfield 69, 3) := by decide +kernel
theorem dX9_init_166 : decode cX9_init 166 = .ok (.aload_n 0, 1) := by decide +kernel
theorem dX9_init_167 : decode cX9_init 167 = .ok (.bipush 40, 2) := by decide +kernel
theorem dX9_init_169 : decode cX9_init 169 = .ok (.newarray .int, 2) := by decide +kernel
theorem dX9_init_171 : decode cX9_init 171 = .ok (.putfield 73, 3) := by decide +kernel
theorem dX9_init_174 : decode cX9_init 174 = .ok (.aload_n 0, 1) := by decide +kernel
theorem dX9_init_175 : decode cX9_init 175 = .ok (.sipush 200, 3) := by decide +kernel
theorem dX9_init_178 : decode cX9_init 178 = .ok (.newarray .int, 2) := by decide +kernel
theorem dX9_init_180 : decode cX9_init 180 = .ok (.putfield 76, 3) := by decide +kernel
theorem dX9_init_183 : decode cX9_init 183 = .ok (.aload_n 0, 1) := by decide +kernel
theorem dX9_init_184 : decode cX9_init 184 = .ok (.sipush 200, 3) := by decide +kernel
theorem dX9_init_187 : decode cX9_init 187 = .ok (.newarray .long, 2) := by decide +kernel
theorem dX9_init_189 : decode cX9_init 189 = .ok (.putfield 79, 3) := by decide +kernel
theorem dX9_init_192 : decode cX9_init 192 = .ok (.aload_n 0, 1) := by decide +kernel
theorem dX9_init_193 : decode cX9_init 193 = .ok (.sipush 200, 3) := by decide +kernel
theorem dX9_init_196 : decode cX9_init 196 = .ok (.newarray .int, 2) := by decide +kernel
theorem dX9_init_198 : decode cX9_init 198 = .ok (.putfield 83, 3) := by decide +kernel
theorem dX9_init_201 : decode cX9_init 201 = .ok (.aload_n 0, 1) := by decide +kernel
theorem dX9_init_202 : decode cX9_init 202 = .ok (.sipush 195, 3) := by decide +kernel
theorem dX9_init_205 : decode cX9_init 205 = .ok (.newarray .int, 2) := by decide +kernel
theorem dX9_init_207 : decode cX9_init 207 = .ok (.putfield 86, 3) := by decide +kernel
theorem dX9_init_210 : decode cX9_init 210 = .ok (.aload_n 0, 1) := by decide +kernel
theorem dX9_init_211 : decode cX9_init 211 = .ok (.sipush 5070, 3) := by decide +kernel
theorem dX9_init_214 : decode cX9_init 214 = .ok (.newarray .int, 2) := by decide +kernel
theorem dX9_init_216 : decode cX9_init 216 = .ok (.putfield 89, 3) := by decide +kernel
theorem dX9_init_219 : decode cX9_init 219 = .ok (.aload_n 0, 1) := by decide +kernel
theorem dX9_init_220 : decode cX9_init 220 = .ok (.sipush 25350, 3) := by decide +kernel
theorem dX9_init_223 : decode cX9_init 223 = .ok (.newarray .int, 2) := by decide +kernel
theorem dX9_init_225 : decode cX9_init 225 = .ok (.putfield 92, 3) := by decide +kernel
theorem dX9_init_228 : decode cX9_init 228 = .ok (.aload_n 0, 1) := by decide +kernel
theorem dX9_init_229 : decode cX9_init 229 = .ok (.sipush 25350, 3) := by decide +kernel
theorem dX9_init_232 : decode cX9_init 232 = .ok (.newarray .long, 2) := by decide +kernel
theorem dX9_init_234 : decode cX9_init 234 = .ok (.putfield 95, 3) := by decide +kernel
theorem dX9_init_237 : decode cX9_init 237 = .ok (.aload_n 0, 1) := by decide +kernel
theorem dX9_init_238 : decode cX9_init 238 = .ok (.bipush 12, 2) := by decide +kernel
theorem dX9_init_240 : decode cX9_init 240 = .ok (.newarray .int, 2) := by decide +kernel
theorem dX9_init_242 : decode cX9_init 242 = .ok (.putfield 98, 3) := by decide +kernel
theorem dX9_init_245 : decode cX9_init 245 = .ok (.return_, 1) := by decide +kernel
theorem zw9_0 : Cond.fieldLink RX9 7 RX9 (TX9 0).2.1 (TX9 0).2.2.1 ∈ zTB := zin 778 (by decide +kernel) (by decide +kernel)
theorem zw9_1 : Cond.fieldLink RX9 13 RX9 (TX9 1).2.1 (TX9 1).2.2.1 ∈ zTB := zin 779 (by decide +kernel) (by decide +kernel)
theorem zw9_2 : Cond.fieldLink RX9 16 RX9 (TX9 2).2.1 (TX9 2).2.2.1 ∈ zTB := zin 780 (by decide +kernel) (by decide +kernel)
theorem zw9_3 : Cond.fieldLink RX9 19 RX9 (TX9 3).2.1 (TX9 3).2.2.1 ∈ zTB := zin 781 (by decide +kernel) (by decide +kernel)
theorem zw9_6 : Cond.fieldLink RX9 22 RX9 (TX9 6).2.1 (TX9 6).2.2.1 ∈ zTB := zin 784 (by decide +kernel) (by decide +kernel)
theorem zw9_7 : Cond.fieldLink RX9 25 RX9 (TX9 7).2.1 (TX9 7).2.2.1 ∈ zTB := zin 785 (by decide +kernel) (by decide +kernel)
theorem zw9_8 : Cond.fieldLink RX9 28 RX9 (TX9 8).2.1 (TX9 8).2.2.1 ∈ zTB := zin 786 (by decide +kernel) (by decide +kernel)
theorem zw9_10 : Cond.fieldLink RX9 31 RX9 (TX9 10).2.1 (TX9 10).2.2.1 ∈ zTB := zin 788 (by decide +kernel) (by decide +kernel)
theorem zw9_12 : Cond.fieldLink RX9 34 RX9 (TX9 12).2.1 (TX9 12).2.2.1 ∈ zTB := zin 790 (by decide +kernel) (by decide +kernel)
theorem zw9_14 : Cond.fieldLink RX9 38 RX9 (TX9 14).2.1 (TX9 14).2.2.1 ∈ zTB := zin 792 (by decide +kernel) (by decide +kernel)
theorem zw9_15 : Cond.fieldLink RX9 41 RX9 (TX9 15).2.1 (TX9 15).2.2.1 ∈ zTB := zin 793 (by decide +kernel) (by decide +kernel)
theorem zw9_16 : Cond.fieldLink RX9 45 RX9 (TX9 16).2.1 (TX9 16).2.2.1 ∈ zTB := zin 794 (by decide +kernel) (by decide +kernel)
theorem zw9_18 : Cond.fieldLink RX9 48 RX9 (TX9 18).2.1 (TX9 18).2.2.1 ∈ zTB := zin 796 (by decide +kernel) (by decide +kernel)
theorem zw9_19 : Cond.fieldLink RX9 51 RX9 (TX9 19).2.1 (TX9 19).2.2.1 ∈ zTB := zin 797 (by decide +kernel) (by decide +kernel)
theorem zw9_21 : Cond.fieldLink RX9 54 RX9 (TX9 21).2.1 (TX9 21).2.2.1 ∈ zTB := zin 799 (by decide +kernel) (by decide +kernel)
theorem zw9_23 : Cond.fieldLink RX9 57 RX9 (TX9 23).2.1 (TX9 23).2.2.1 ∈ zTB := zin 801 (by decide +kernel) (by decide +kernel)
theorem zw9_24 : Cond.fieldLink RX9 60 RX9 (TX9 24).2.1 (TX9 24).2.2.1 ∈ zTB := zin 802 (by decide +kernel) (by decide +kernel)
theorem zw9_26 : Cond.fieldLink RX9 63 RX9 (TX9 26).2.1 (TX9 26).2.2.1 ∈ zTB := zin 804 (by decide +kernel) (by decide +kernel)
theorem zw9_27 : Cond.fieldLink RX9 66 RX9 (TX9 27).2.1 (TX9 27).2.2.1 ∈ zTB := zin 805 (by decide +kernel) (by decide +kernel)
theorem zw9_29 : Cond.fieldLink RX9 69 RX9 (TX9 29).2.1 (TX9 29).2.2.1 ∈ zTB := zin 807 (by decide +kernel) (by decide +kernel)
theorem zw9_30 : Cond.fieldLink RX9 73 RX9 (TX9 30).2.1 (TX9 30).2.2.1 ∈ zTB := zin 808 (by decide +kernel) (by decide +kernel)
theorem zw9_31 : Cond.fieldLink RX9 76 RX9 (TX9 31).2.1 (TX9 31).2.2.1 ∈ zTB := zin 809 (by decide +kernel) (by decide +kernel)
theorem zw9_32 : Cond.fieldLink RX9 79 RX9 (TX9 32).2.1 (TX9 32).2.2.1 ∈ zTB := zin 810 (by decide +kernel) (by decide +kernel)
theorem zw9_33 : Cond.fieldLink RX9 83 RX9 (TX9 33).2.1 (TX9 33).2.2.1 ∈ zTB := zin 811 (by decide +kernel) (by decide +kernel)
theorem zw9_34 : Cond.fieldLink RX9 86 RX9 (TX9 34).2.1 (TX9 34).2.2.1 ∈ zTB := zin 812 (by decide +kernel) (by decide +kernel)
theorem zw9_35 : Cond.fieldLink RX9 89 RX9 (TX9 35).2.1 (TX9 35).2.2.1 ∈ zTB := zin 813 (by decide +kernel) (by decide +kernel)
theorem zw9_36 : Cond.fieldLink RX9 92 RX9 (TX9 36).2.1 (TX9 36).2.2.1 ∈ zTB := zin 814 (by decide +kernel) (by decide +kernel)
theorem zw9_37 : Cond.fieldLink RX9 95 RX9 (TX9 37).2.1 (TX9 37).2.2.1 ∈ zTB := zin 815 (by decide +kernel) (by decide +kernel)
theorem zw9_38 : Cond.fieldLink RX9 98 RX9 (TX9 38).2.1 (TX9 38).2.2.1 ∈ zTB := zin 816 (by decide +kernel) (by decide +kernel)
def zX9_post : (Nat → ClassId) → Nat → List Value → va_W → Prop := fun ct _ fs ex => ∃ (q0 : Nat) (q1 : Nat) (q2 : Nat) (q3 : Nat) (q4 : Nat) (q5 : Nat) (q6 : Nat) (q7 : Nat) (q8 : Nat) (q9 : Nat) (q10 : Nat) (q11 : Nat) (q12 : Nat) (q13 : Nat) (q14 : Nat) (q15 : Nat) (q16 : Nat) (q17 : Nat) (q18 : Nat) (q19 : Nat) (q20 : Nat) (q21 : Nat) (q22 : Nat) (q23 : Nat) (q24 : Nat) (q25 : Nat) (q26 : Nat) (q27 : Nat), fs = [.ref q0, .ref q1, .ref q2, .ref q3, .int 0, .int 0, .ref q4, .ref q5, .ref q6, .int 0, .ref q7, .int 0, .int 30, .int 0, .ref q8, .ref q9, .ref q10, .int 0, .ref q11, .ref q12, .int 0, .ref q13, .int 0, .ref q14, .ref q15, .int 0, .ref q16, .ref q17, .int 0, .ref q18, .ref q19, .ref q20, .ref q21, .ref q22, .ref q23, .ref q24, .ref q25, .ref q26, .ref q27] ∧ ex = ((((((((((((((((((((((((((([] ++ [(q0, .inl (ct 0, 8, .inl (fun _ => 0)))]) ++ [(q1, .inl (ct 0, 8, .inl (fun _ => 0)))]) ++ [(q2, .inl (ct 0, 640, .inl (fun _ => 0)))]) ++ [(q3, .inl (ct 0, 80, .inl (fun _ => 0)))]) ++ [(q4, .inl (ct 0, 40, .inl (fun _ => 0)))]) ++ [(q5, .inl (ct 0, 40, .inl (fun _ => 0)))]) ++ [(q6, .inl (ct 0, 40, .inl (fun _ => 0)))]) ++ [(q7, .inl (ct 0, 40, .inl (fun _ => 0)))]) ++ [(q8, .inl (ct 0, 41, .inl (fun _ => 0)))]) ++ [(q9, .inl (ct 0, 40, .inl (fun _ => 0)))]) ++ [(q10, .inl (ct 0, 49660, .inl (fun _ => 0)))]) ++ [(q11, .inl (ct 0, 12000, .inl (fun _ => 0)))]) ++ [(q12, .inl (ct 0, 12000, .inl (fun _ => 0)))]) ++ [(q13, .inl (ct 0, 50, .inl (fun _ => 0)))]) ++ [(q14, .inl (ct 0, 30, .inl (fun _ => 0)))]) ++ [(q15, .inl (ct 0, 360, .inl (fun _ => 0)))]) ++ [(q16, .inl (ct 0, 12, .inl (fun _ => 0)))]) ++ [(q17, .inl (ct 0, 16, .inl (fun _ => 0)))]) ++ [(q18, .inl (ct 1, 40, .inl (fun _ => 0)))]) ++ [(q19, .inl (ct 0, 40, .inl (fun _ => 0)))]) ++ [(q20, .inl (ct 0, 200, .inl (fun _ => 0)))]) ++ [(q21, .inl (ct 2, 200, .inr (.inl (fun _ => 0))))]) ++ [(q22, .inl (ct 0, 200, .inl (fun _ => 0)))]) ++ [(q23, .inl (ct 0, 195, .inl (fun _ => 0)))]) ++ [(q24, .inl (ct 0, 5070, .inl (fun _ => 0)))]) ++ [(q25, .inl (ct 0, 25350, .inl (fun _ => 0)))]) ++ [(q26, .inl (ct 2, 25350, .inr (.inl (fun _ => 0))))]) ++ [(q27, .inl (ct 0, 12, .inl (fun _ => 0)))]
