theorem dX11_act_0 : decode cX11_act 0 = .ok (.aload_n 0, 1) := by decide +kernel
theorem dX11_act_1 : decode cX11_act 1 = .ok (.getfield 65, 3) := by decide +kernel
theorem dX11_act_4 : decode cX11_act 4 = .ok (.invokevirtual 328, 3) := by decide +kernel
theorem dX11_act_7 : decode cX11_act 7 = .ok (.iload_n 1, 1) := by decide +kernel
theorem dX11_act_8 : decode cX11_act 8 = .ok (.invokestatic 322, 3) := by decide +kernel
theorem dX11_act_11 : decode cX11_act 11 = .ok (.ifCond .eq 12, 3) := by decide +kernel
theorem dX11_act_14 : decode cX11_act 14 = .ok (.iload_n 2, 1) := by decide +kernel
theorem dX11_act_15 : decode cX11_act 15 = .ok (.iconst 0, 1) := by decide +kernel
theorem dX11_act_16 : decode cX11_act 16 = .ok (.iconst 3, 1) := by decide +kernel
theorem dX11_act_17 : decode cX11_act 17 = .ok (.invokestatic 69, 3) := by decide +kernel
theorem dX11_act_20 : decode cX11_act 20 = .ok (.ifCond .ne 5, 3) := by decide +kernel
theorem dX11_act_23 : decode cX11_act 23 = .ok (.iconst 0, 1) := by decide +kernel
theorem dX11_act_24 : decode cX11_act 24 = .ok (.ireturn, 1) := by decide +kernel
theorem dX11_act_25 : decode cX11_act 25 = .ok (.aload_n 0, 1) := by decide +kernel
theorem dX11_act_26 : decode cX11_act 26 = .ok (.getfield 10, 3) := by decide +kernel
theorem dX11_act_29 : decode cX11_act 29 = .ok (.aload_n 0, 1) := by decide +kernel
theorem dX11_act_30 : decode cX11_act 30 = .ok (.getfield 55, 3) := by decide +kernel
theorem dX11_act_33 : decode cX11_act 33 = .ok (.iload_n 1, 1) := by decide +kernel
theorem dX11_act_34 : decode cX11_act 34 = .ok (.iaload, 1) := by decide +kernel
theorem dX11_act_35 : decode cX11_act 35 = .ok (.invokevirtual 120, 3) := by decide +kernel
theorem dX11_act_38 : decode cX11_act 38 = .ok (.astore 4, 2) := by decide +kernel
theorem dX11_act_40 : decode cX11_act 40 = .ok (.aload 4, 2) := by decide +kernel
theorem dX11_act_42 : decode cX11_act 42 = .ok (.ifnonnull 5, 3) := by decide +kernel
theorem dX11_act_45 : decode cX11_act 45 = .ok (.iconst 0, 1) := by decide +kernel
theorem dX11_act_46 : decode cX11_act 46 = .ok (.ireturn, 1) := by decide +kernel
theorem dX11_act_47 : decode cX11_act 47 = .ok (.aload_n 0, 1) := by decide +kernel
theorem dX11_act_48 : decode cX11_act 48 = .ok (.aload 4, 2) := by decide +kernel
theorem dX11_act_50 : decode cX11_act 50 = .ok (.getfield 124, 3) := by decide +kernel
theorem dX11_act_53 : decode cX11_act 53 = .ok (.aload_n 0, 1) := by decide +kernel
theorem dX11_act_54 : decode cX11_act 54 = .ok (.getfield 55, 3) := by decide +kernel
theorem dX11_act_57 : decode cX11_act 57 = .ok (.iload_n 1, 1) := by decide +kernel
theorem dX11_act_58 : decode cX11_act 58 = .ok (.iaload, 1) := by decide +kernel
theorem dX11_act_59 : decode cX11_act 59 = .ok (.aload 4, 2) := by decide +kernel
theorem dX11_act_61 : decode cX11_act 61 = .ok (.getfield 127, 3) := by decide +kernel
theorem dX11_act_64 : decode cX11_act 64 = .ok (.invokevirtual 331, 3) := by decide +kernel
theorem dX11_act_67 : decode cX11_act 67 = .ok (.astore 5, 2) := by decide +kernel
theorem dX11_act_69 : decode cX11_act 69 = .ok (.iload_n 2, 1) := by decide +kernel
theorem dX11_act_70 : decode cX11_act 70 = .ok (.tableswitch 59 0 2 #[26, 37, 48], 26) := by decide +kernel
theorem dX11_act_96 : decode cX11_act 96 = .ok (.aload 5, 2) := by decide +kernel
theorem dX11_act_98 : decode cX11_act 98 = .ok (.iload_n 3, 1) := by decide +kernel
theorem dX11_act_99 : decode cX11_act 99 = .ok (.invokevirtual 335, 3) := by decide +kernel
theorem dX11_act_102 : decode cX11_act 102 = .ok (.istore 6, 2) := by decide +kernel
theorem dX11_act_104 : decode cX11_act 104 = .ok (.goto 33, 3) := by decide +kernel
theorem dX11_act_107 : decode cX11_act 107 = .ok (.aload 5, 2) := by decide +kernel
theorem dX11_act_109 : decode cX11_act 109 = .ok (.iload_n 3, 1) := by decide +kernel
theorem dX11_act_110 : decode cX11_act 110 = .ok (.invokevirtual 340, 3) := by decide +kernel
theorem dX11_act_113 : decode cX11_act 113 = .ok (.istore 6, 2) := by decide +kernel
theorem dX11_act_115 : decode cX11_act 115 = .ok (.goto 22, 3) := by decide +kernel
theorem dX11_act_118 : decode cX11_act 118 = .ok (.aload 5, 2) := by decide +kernel
theorem dX11_act_120 : decode cX11_act 120 = .ok (.iload_n 3, 1) := by decide +kernel
theorem dX11_act_121 : decode cX11_act 121 = .ok (.invokevirtual 343, 3) := by decide +kernel
theorem dX11_act_124 : decode cX11_act 124 = .ok (.istore 6, 2) := by decide +kernel
theorem dX11_act_126 : decode cX11_act 126 = .ok (.goto 11, 3) := by decide +kernel
theorem dX11_act_129 : decode cX11_act 129 = .ok (.aload 5, 2) := by decide +kernel
theorem dX11_act_131 : decode cX11_act 131 = .ok (.iload_n 3, 1) := by decide +kernel
theorem dX11_act_132 : decode cX11_act 132 = .ok (.invokevirtual 346, 3) := by decide +kernel
theorem dX11_act_135 : decode cX11_act 135 = .ok (.istore 6, 2) := by decide +kernel
theorem dX11_act_137 : decode cX11_act 137 = .ok (.aload 5, 2) := by decide +kernel
theorem dX11_act_139 : decode cX11_act 139 = .ok (.getfield 349, 3) := by decide +kernel
theorem dX11_act_142 : decode cX11_act 142 = .ok (.ifCond .eq 8, 3) := by decide +kernel
theorem dX11_act_145 : decode cX11_act 145 = .ok (.bipush (-15), 2) := by decide +kernel
theorem dX11_act_147 : decode cX11_act 147 = .ok (.goto 5, 3) := by decide +kernel
theorem dX11_act_150 : decode cX11_act 150 = .ok (.iload 6, 2) := by decide +kernel
theorem dX11_act_152 : decode cX11_act 152 = .ok (.ireturn, 1) := by decide +kernel
theorem hd_Jx4a65c_clear_da8c8 : yJx4a65c_clear_da8c8.cls ≠ "java/lang/invoke/MethodHandle" ∧ yJx4a65c_clear_da8c8.cls ≠ "java/lang/invoke/VarHandle" ∧ (parseMethodDescriptor yJx4a65c_clear_da8c8.desc).map (fun d => d.parameters.length) = some 0 := by decide +kernel
theorem gv_X11_328 : GoodIn gT (wsV "NylonLadder" 328 "java/util/ArrayList" yJx4a65c_clear_da8c8 (Cond.code yJx4a65c_clear_da8c8 cJx4a65c_clear_da8c8 4 none :: gT)) := good_V T_4_193 T_4_194 T_4_195 T_1_9 T_4_196
theorem hd_X11_thingOf : yX11_thingOf.cls ≠ "java/lang/invoke/MethodHandle" ∧ yX11_thingOf.cls ≠ "java/lang/invoke/VarHandle" ∧ (parseMethodDescriptor yX11_thingOf.desc).map (fun d => d.parameters.length) = some 3 := by decide +kernel
theorem gv_X11_331 : GoodIn gT (wsV "NylonLadder" 331 "NylonLadder" yX11_thingOf (Cond.code yX11_thingOf cX11_thingOf 4 (some (.object "NylonLadder$Plain")) :: gT)) := good_V T_4_197 T_4_199 TS_27 T_1_1 T_4_200
theorem hdo_X11_335 : ("NylonLadder$Plain" : String) ≠ "java/lang/invoke/MethodHandle" ∧ ("NylonLadder$Plain" : String) ≠ "java/lang/invoke/VarHandle" ∧ (parseMethodDescriptor "(I)I").map (fun d => d.parameters.length) = some 1 := by decide +kernel
theorem gu_X11_335_4 : GoodIn gT (va_wsO "NylonLadder" 335 "NylonLadder$Lined" "NylonLadder$Plain" ⟨"NylonLadder$Plain", "runs", "(I)I"⟩ yX1_runs (Cond.code yX1_runs cX1_runs 2 (some .int) :: gT)) := good_O T_5_58 T_5_61 T_5_59 T_5_62 T_5_63 T_1_21 T_5_64
theorem fg_X11_349_4 : FdG "NylonLadder" 349 4 3 false := ⟨_, _, _, _, rfl, by decide, by decide, by decide, gxX1, by decide, T_4_236, Or.inl rfl, rfl⟩
theorem gu_X11_335_5 : GoodIn gT (va_wsO "NylonLadder" 335 "NylonLadder$Mesh" "NylonLadder$Plain" ⟨"NylonLadder$Plain", "runs", "(I)I"⟩ yX2_runs (Cond.code yX2_runs cX2_runs 2 (some .int) :: gT)) := good_O T_5_58 T_5_61 T_5_59 T_5_147 T_5_148 T_1_20 T_5_149
theorem fg_X11_349_5 : FdG "NylonLadder" 349 5 3 false := ⟨_, _, _, _, rfl, by decide, by decide, by decide, gxX2, by decide, T_4_236, Or.inl rfl, rfl⟩
theorem gu_X11_335_6 : GoodIn gT (va_wsU "NylonLadder" 335 "NylonLadder$Old" "NylonLadder$Plain" ⟨"NylonLadder$Plain", "runs", "(I)I"⟩ yX4_runs (Cond.code yX4_runs cX4_runs 2 (some .int) :: gT)) := good_U T_5_58 T_5_61 T_5_155 T_5_59 T_1_17 T_5_158
theorem fg_X11_349_6 : FdG "NylonLadder" 349 6 3 false := ⟨_, _, _, _, rfl, by decide, by decide, by decide, gxX3, by decide, T_4_236, Or.inl rfl, rfl⟩
theorem gu_X11_335_7 : GoodIn gT (wsV "NylonLadder" 335 "NylonLadder$Plain" yX4_runs (Cond.code yX4_runs cX4_runs 2 (some .int) :: gT)) := good_V T_5_58 T_5_59 T_5_60 T_1_17 T_5_158
theorem fg_X11_349_7 : FdG "NylonLadder" 349 7 3 false := ⟨_, _, _, _, rfl, by decide, by decide, by decide, gxX4, by decide, T_4_236, Or.inl rfl, rfl⟩
theorem gu_X11_335_8 : GoodIn gT (va_wsU "NylonLadder" 335 "NylonLadder$Sheer" "NylonLadder$Plain" ⟨"NylonLadder$Plain", "runs", "(I)I"⟩ yX4_runs (Cond.code yX4_runs cX4_runs 2 (some .int) :: gT)) := good_U T_5_58 T_5_61 T_5_156 T_5_59 T_1_17 T_5_158
theorem fg_X11_349_8 : FdG "NylonLadder" 349 8 3 false := ⟨_, _, _, _, rfl, by decide, by decide, by decide, gxX5, by decide, T_4_236, Or.inl rfl, rfl⟩
theorem gu_X11_335_12 : GoodIn gT (va_wsO "NylonLadder" 335 "NylonLadder$Thick" "NylonLadder$Plain" ⟨"NylonLadder$Plain", "runs", "(I)I"⟩ yX9_runs (Cond.code yX9_runs cX9_runs 2 (some .int) :: gT)) := good_O T_5_58 T_5_61 T_5_59 T_5_157 T_5_142 T_1_19 T_5_143
theorem fg_X11_349_12 : FdG "NylonLadder" 349 12 3 false := ⟨_, _, _, _, rfl, by decide, by decide, by decide, gxX9, by decide, T_4_236, Or.inl rfl, rfl⟩
theorem hdo_X11_340 : ("NylonLadder$Plain" : String) ≠ "java/lang/invoke/MethodHandle" ∧ ("NylonLadder$Plain" : String) ≠ "java/lang/invoke/VarHandle" ∧ (parseMethodDescriptor "(I)I").map (fun d => d.parameters.length) = some 1 := by decide +kernel
theorem gu_X11_340_4 : GoodIn gT (va_wsO "NylonLadder" 340 "NylonLadder$Lined" "NylonLadder$Plain" ⟨"NylonLadder$Plain", "dries", "(I)I"⟩ yX1_dries (Cond.code yX1_dries cX1_dries 2 (some .int) :: gT)) := good_O T_5_161 T_5_164 T_5_162 T_5_165 T_5_166 T_1_21 T_5_167
theorem gu_X11_340_5 : GoodIn gT (va_wsO "NylonLadder" 340 "NylonLadder$Mesh" "NylonLadder$Plain" ⟨"NylonLadder$Plain", "dries", "(I)I"⟩ yX5_dries (Cond.code yX5_dries cX5_dries 2 (some .int) :: gT)) := good_O T_5_161 T_5_164 T_5_162 T_5_172 T_5_173 T_1_18 T_5_174
theorem gu_X11_340_6 : GoodIn gT (va_wsU "NylonLadder" 340 "NylonLadder$Old" "NylonLadder$Plain" ⟨"NylonLadder$Plain", "dries", "(I)I"⟩ yX4_dries (Cond.code yX4_dries cX4_dries 2 (some .int) :: gT)) := good_U T_5_161 T_5_164 T_5_178 T_5_162 T_1_17 T_5_181
theorem gu_X11_340_7 : GoodIn gT (wsV "NylonLadder" 340 "NylonLadder$Plain" yX4_dries (Cond.code yX4_dries cX4_dries 2 (some .int) :: gT)) := good_V T_5_161 T_5_162 T_5_163 T_1_17 T_5_181
theorem gu_X11_340_8 : GoodIn gT (va_wsO "NylonLadder" 340 "NylonLadder$Sheer" "NylonLadder$Plain" ⟨"NylonLadder$Plain", "dries", "(I)I"⟩ yX5_dries (Cond.code yX5_dries cX5_dries 2 (some .int) :: gT)) := good_O T_5_161 T_5_164 T_5_162 T_5_179 T_5_173 T_1_18 T_5_174
theorem gu_X11_340_12 : GoodIn gT (va_wsU "NylonLadder" 340 "NylonLadder$Thick" "NylonLadder$Plain" ⟨"NylonLadder$Plain", "dries", "(I)I"⟩ yX4_dries (Cond.code yX4_dries cX4_dries 2 (some .int) :: gT)) := good_U T_5_161 T_5_164 T_5_180 T_5_162 T_1_17 T_5_181
theorem hdo_X11_343 : ("NylonLadder$Plain" : String) ≠ "java/lang/invoke/MethodHandle" ∧ ("NylonLadder$Plain" : String) ≠ "java/lang/invoke/VarHandle" ∧ (parseMethodDescriptor "(I)I").map (fun d => d.parameters.length) = some 1 := by decide +kernel
theorem gu_X11_343_4 : GoodIn gT (va_wsU "NylonLadder" 343 "NylonLadder$Lined" "NylonLadder$Plain" ⟨"NylonLadder$Plain", "holds", "(I)I"⟩ yX4_holds (Cond.code yX4_holds cX4_holds 3 (some .int) :: gT)) := good_U T_5_183 T_5_186 T_5_187 T_5_184 T_1_17 T_5_205
theorem hd_X2_holds : yX2_holds.cls ≠ "java/lang/invoke/MethodHandle" ∧ yX2_holds.cls ≠ "java/lang/invoke/VarHandle" ∧ (parseMethodDescriptor yX2_holds.desc).map (fun d => d.parameters.length) = some 1 := by decide +kernel
theorem gu_X11_343_5 : GoodIn gT (va_wsO "NylonLadder" 343 "NylonLadder$Mesh" "NylonLadder$Plain" ⟨"NylonLadder$Plain", "holds", "(I)I"⟩ yX2_holds (Cond.code yX2_holds cX2_holds 2 (some .int) :: gT)) := good_O T_5_183 T_5_186 T_5_184 T_5_188 T_5_189 T_1_20 T_5_190
theorem hd_X3_holds : yX3_holds.cls ≠ "java/lang/invoke/MethodHandle" ∧ yX3_holds.cls ≠ "java/lang/invoke/VarHandle" ∧ (parseMethodDescriptor yX3_holds.desc).map (fun d => d.parameters.length) = some 1 := by decide +kernel
theorem gu_X11_343_6 : GoodIn gT (va_wsO "NylonLadder" 343 "NylonLadder$Old" "NylonLadder$Plain" ⟨"NylonLadder$Plain", "holds", "(I)I"⟩ yX3_holds (Cond.code yX3_holds cX3_holds 3 (some .int) :: gT)) := good_O T_5_183 T_5_186 T_5_184 T_5_194 T_5_195 T_1_22 T_5_196
theorem gu_X11_343_7 : GoodIn gT (wsV "NylonLadder" 343 "NylonLadder$Plain" yX4_holds (Cond.code yX4_holds cX4_holds 3 (some .int) :: gT)) := good_V T_5_183 T_5_184 T_5_185 T_1_17 T_5_205
theorem gu_X11_343_8 : GoodIn gT (va_wsU "NylonLadder" 343 "NylonLadder$Sheer" "NylonLadder$Plain" ⟨"NylonLadder$Plain", "holds", "(I)I"⟩ yX4_holds (Cond.code yX4_holds cX4_holds 3 (some .int) :: gT)) := good_U T_5_183 T_5_186 T_5_203 T_5_184 T_1_17 T_5_205
theorem gu_X11_343_12 : GoodIn gT (va_wsU "NylonLadder" 343 "NylonLadder$Thick" "NylonLadder$Plain" ⟨"NylonLadder$Plain", "holds", "(I)I"⟩ yX4_holds (Cond.code yX4_holds cX4_holds 3 (some .int) :: gT)) := good_U T_5_183 T_5_186 T_5_204 T_5_184 T_1_17 T_5_205
theorem hd_X9_tells : yX9_tells.cls ≠ "java/lang/invoke/MethodHandle" ∧ yX9_tells.cls ≠ "java/lang/invoke/VarHandle" ∧ (parseMethodDescriptor yX9_tells.desc).map (fun d => d.parameters.length) = some 1 := by decide +kernel
theorem hdo_X11_346 : ("NylonLadder$Plain" : String) ≠ "java/lang/invoke/MethodHandle" ∧ ("NylonLadder$Plain" : String) ≠ "java/lang/invoke/VarHandle" ∧ (parseMethodDescriptor "(I)I").map (fun d => d.parameters.length) = some 1 := by decide +kernel
theorem gu_X11_346_4 : GoodIn gT (va_wsO "NylonLadder" 346 "NylonLadder$Lined" "NylonLadder$Plain" ⟨"NylonLadder$Plain", "tells", "(I)I"⟩ yX9_tells (Cond.code yX9_tells cX9_tells 2 (some .int) :: gT)) := good_O T_5_206 T_5_209 T_5_207 T_5_210 T_5_211 T_1_19 T_5_212
theorem gu_X11_346_5 : GoodIn gT (va_wsU "NylonLadder" 346 "NylonLadder$Mesh" "NylonLadder$Plain" ⟨"NylonLadder$Plain", "tells", "(I)I"⟩ yX4_tells (Cond.code yX4_tells cX4_tells 2 (some .int) :: gT)) := good_U T_5_206 T_5_209 T_5_218 T_5_207 T_1_17 T_5_225
theorem hd_X3_tells : yX3_tells.cls ≠ "java/lang/invoke/MethodHandle" ∧ yX3_tells.cls ≠ "java/lang/invoke/VarHandle" ∧ (parseMethodDescriptor yX3_tells.desc).map (fun d => d.parameters.length) = some 1 := by decide +kernel
theorem gu_X11_346_6 : GoodIn gT (va_wsO "NylonLadder" 346 "NylonLadder$Old" "NylonLadder$Plain" ⟨"NylonLadder$Plain", "tells", "(I)I"⟩ yX3_tells (Cond.code yX3_tells cX3_tells 2 (some .int) :: gT)) := good_O T_5_206 T_5_209 T_5_207 T_5_219 T_5_220 T_1_22 T_5_221
theorem gu_X11_346_7 : GoodIn gT (wsV "NylonLadder" 346 "NylonLadder$Plain" yX4_tells (Cond.code yX4_tells cX4_tells 2 (some .int) :: gT)) := good_V T_5_206 T_5_207 T_5_208 T_1_17 T_5_225
theorem gu_X11_346_8 : GoodIn gT (va_wsU "NylonLadder" 346 "NylonLadder$Sheer" "NylonLadder$Plain" ⟨"NylonLadder$Plain", "tells", "(I)I"⟩ yX4_tells (Cond.code yX4_tells cX4_tells 2 (some .int) :: gT)) := good_U T_5_206 T_5_209 T_5_223 T_5_207 T_1_17 T_5_225
theorem gu_X11_346_12 : GoodIn gT (va_wsO "NylonLadder" 346 "NylonLadder$Thick" "NylonLadder$Plain" ⟨"NylonLadder$Plain", "tells", "(I)I"⟩ yX9_tells (Cond.code yX9_tells cX9_tells 2 (some .int) :: gT)) := good_O T_5_206 T_5_209 T_5_207 T_5_224 T_5_211 T_1_19 T_5_212
def fX11_act (M : Mm) (o : Nat) (p1 : Int32) (p2 : Int32) (p3 : Int32) : Option (Int32 × Mm) :=
  B1 (rdN M o 14 11) fun a1_1 =>
  B1 (gk M a1_1 2) fun _ =>
  B1 (fJx4a65c_clear_da8c8 M a1_1) fun M4_3 =>
  B1 (fX11_isShelf M4_3 p1) fun x8_4 =>
  if x8_4 = 0 then
    some (0, M4_3)
  else
    B1 (fX11_isWithin M4_3 p2 0 3) fun x17_5 =>
    if x17_5 = 0 then
      some (0, M4_3)
    else
      B1 (rdN M4_3 o 14 0) fun a26_6 =>
      B1 (rdN M4_3 o 14 9) fun a30_7 =>
      B1 (alI M4_3 a30_7 p1) fun x34_8 =>
      B1 (gk M4_3 a26_6 3) fun _ =>
      B1 (fX0_stockingAt M4_3 a26_6 x34_8) fun x35_10 =>
      NL x35_10 (
        some (0, M4_3)) (fun a42_11 =>
        B1 (rdI M4_3 a42_11 10 0) fun x50_12 =>
        B1 (rdN M4_3 o 14 9) fun a54_13 =>
        B1 (alI M4_3 a54_13 p1) fun x58_14 =>
        B1 (rdI M4_3 a42_11 10 1) fun x61_15 =>
        B1 (gk M4_3 o 14) fun _ =>
        B2 (fX11_thingOf M4_3 o x50_12 x58_14 x61_15) fun x64_17 M64_18 =>
        if p2 = 0 then
          B1 x64_17 fun a99_19 =>
          if M64_18.k a99_19 = 4 then
            B1 (gk M64_18 a99_19 4) fun _ =>
            B2 (fX1_runs_k4 M64_18 a99_19 p3) fun x99_21 M99_22 =>
            B1 (rdI M99_22 a99_19 4 3) fun x139_23 =>
            if x139_23 = 0 then
              some (x99_21, M99_22)
            else
              some ((-15), M99_22)
          else
            if M64_18.k a99_19 = 5 then
              B1 (gk M64_18 a99_19 5) fun _ =>
              B2 (fX2_runs_k5 M64_18 a99_19 p3) fun x99_25 M99_26 =>
              B1 (rdI M99_26 a99_19 5 3) fun x139_27 =>
              if x139_27 = 0 then
                some (x99_25, M99_26)
              else
                some ((-15), M99_26)
            else
              if M64_18.k a99_19 = 6 then
                B1 (gk M64_18 a99_19 6) fun _ =>
                B2 (fX4_runs_k6 M64_18 a99_19 p3) fun x99_29 M99_30 =>
                B1 (rdI M99_30 a99_19 6 3) fun x139_31 =>
                if x139_31 = 0 then
                  some (x99_29, M99_30)
                else
                  some ((-15), M99_30)
              else
                if M64_18.k a99_19 = 7 then
                  B1 (gk M64_18 a99_19 7) fun _ =>
                  B2 (fX4_runs_k7 M64_18 a99_19 p3) fun x99_33 M99_34 =>
                  B1 (rdI M99_34 a99_19 7 3) fun x139_35 =>
                  if x139_35 = 0 then
                    some (x99_33, M99_34)
                  else
                    some ((-15), M99_34)
                else
                  if M64_18.k a99_19 = 8 then
                    B1 (gk M64_18 a99_19 8) fun _ =>
                    B2 (fX4_runs_k8 M64_18 a99_19 p3) fun x99_37 M99_38 =>
                    B1 (rdI M99_38 a99_19 8 3) fun x139_39 =>
                    if x139_39 = 0 then
                      some (x99_37, M99_38)
                    else
                      some ((-15), M99_38)
                  else
                    if M64_18.k a99_19 = 12 then
                      B1 (gk M64_18 a99_19 12) fun _ =>
                      B2 (fX9_runs_k12 M64_18 a99_19 p3) fun x99_41 M99_42 =>
                      B1 (rdI M99_42 a99_19 12 3) fun x139_43 =>
                      if x139_43 = 0 then
                        some (x99_41, M99_42)
                      else
                        some ((-15), M99_42)
                    else
                      none
        else
          if p2 = 1 then
            B1 x64_17 fun a110_44 =>
            if M64_18.k a110_44 = 4 then
              B1 (gk M64_18 a110_44 4) fun _ =>
              B2 (fX1_dries_k4 M64_18 a110_44 p3) fun x110_46 M110_47 =>
              B1 (rdI M110_47 a110_44 4 3) fun x139_48 =>
              if x139_48 = 0 then
                some (x110_46, M110_47)
              else
                some ((-15), M110_47)
            else
              if M64_18.k a110_44 = 5 then
                B1 (gk M64_18 a110_44 5) fun _ =>
                B2 (fX5_dries_k5 M64_18 a110_44 p3) fun x110_50 M110_51 =>
                B1 (rdI M110_51 a110_44 5 3) fun x139_52 =>
                if x139_52 = 0 then
                  some (x110_50, M110_51)
                else
                  some ((-15), M110_51)
              else
                if M64_18.k a110_44 = 6 then
                  B1 (gk M64_18 a110_44 6) fun _ =>
                  B2 (fX4_dries_k6 M64_18 a110_44 p3) fun x110_54 M110_55 =>
                  B1 (rdI M110_55 a110_44 6 3) fun x139_56 =>
                  if x139_56 = 0 then
                    some (x110_54, M110_55)
                  else
                    some ((-15), M110_55)
                else
                  if M64_18.k a110_44 = 7 then
                    B1 (gk M64_18 a110_44 7) fun _ =>
                    B2 (fX4_dries_k7 M64_18 a110_44 p3) fun x110_58 M110_59 =>
                    B1 (rdI M110_59 a110_44 7 3) fun x139_60 =>
                    if x139_60 = 0 then
                      some (x110_58, M110_59)
                    else
                      some ((-15), M110_59)
                  else
                    if M64_18.k a110_44 = 8 then
                      B1 (gk M64_18 a110_44 8) fun _ =>
                      B2 (fX5_dries_k8 M64_18 a110_44 p3) fun x110_62 M110_63 =>
                      B1 (rdI M110_63 a110_44 8 3) fun x139_64 =>
                      if x139_64 = 0 then
                        some (x110_62, M110_63)
                      else
                        some ((-15), M110_63)
                    else
                      if M64_18.k a110_44 = 12 then
                        B1 (gk M64_18 a110_44 12) fun _ =>
                        B2 (fX4_dries_k12 M64_18 a110_44 p3) fun x110_66 M110_67 =>
                        B1 (rdI M110_67 a110_44 12 3) fun x139_68 =>
                        if x139_68 = 0 then
                          some (x110_66, M110_67)
                        else
                          some ((-15), M110_67)
                      else
                        none
          else
            if p2 = 2 then
              B1 x64_17 fun a121_69 =>
              if M64_18.k a121_69 = 4 then
                B1 (gk M64_18 a121_69 4) fun _ =>
                B2 (fX4_holds_k4 M64_18 a121_69 p3) fun x121_71 M121_72 =>
                B1 (rdI M121_72 a121_69 4 3) fun x139_73 =>
                if x139_73 = 0 then
                  some (x121_71, M121_72)
                else
                  some ((-15), M121_72)
              else
                if M64_18.k a121_69 = 5 then
                  B1 (gk M64_18 a121_69 5) fun _ =>
                  B2 (fX2_holds_k5 M64_18 a121_69 p3) fun x121_75 M121_76 =>
                  B1 (rdI M121_76 a121_69 5 3) fun x139_77 =>
                  if x139_77 = 0 then
                    some (x121_75, M121_76)
                  else
                    some ((-15), M121_76)
                else
                  if M64_18.k a121_69 = 6 then
                    B1 (gk M64_18 a121_69 6) fun _ =>
                    B2 (fX3_holds_k6 M64_18 a121_69 p3) fun x121_79 M121_80 =>
                    B1 (rdI M121_80 a121_69 6 3) fun x139_81 =>
                    if x139_81 = 0 then
                      some (x121_79, M121_80)
                    else
                      some ((-15), M121_80)
                  else
                    if M64_18.k a121_69 = 7 then
                      B1 (gk M64_18 a121_69 7) fun _ =>
                      B2 (fX4_holds_k7 M64_18 a121_69 p3) fun x121_83 M121_84 =>
                      B1 (rdI M121_84 a121_69 7 3) fun x139_85 =>
                      if x139_85 = 0 then
                        some (x121_83, M121_84)
                      else
                        some ((-15), M121_84)
                    else
                      if M64_18.k a121_69 = 8 then
                        B1 (gk M64_18 a121_69 8) fun _ =>
                        B2 (fX4_holds_k8 M64_18 a121_69 p3) fun x121_87 M121_88 =>
                        B1 (rdI M121_88 a121_69 8 3) fun x139_89 =>
                        if x139_89 = 0 then
                          some (x121_87, M121_88)
                        else
                          some ((-15), M121_88)
                      else
                        if M64_18.k a121_69 = 12 then
                          B1 (gk M64_18 a121_69 12) fun _ =>
                          B2 (fX4_holds_k12 M64_18 a121_69 p3) fun x121_91 M121_92 =>
                          B1 (rdI M121_92 a121_69 12 3) fun x139_93 =>
                          if x139_93 = 0 then
                            some (x121_91, M121_92)
                          else
                            some ((-15), M121_92)
                        else
                          none
            else
              B1 x64_17 fun a132_94 =>
              if M64_18.k a132_94 = 4 then
                B1 (gk M64_18 a132_94 4) fun _ =>
                B2 (fX9_tells_k4 M64_18 a132_94 p3) fun x132_96 M132_97 =>
                B1 (rdI M132_97 a132_94 4 3) fun x139_98 =>
                if x139_98 = 0 then
                  some (x132_96, M132_97)
                else
                  some ((-15), M132_97)
              else
                if M64_18.k a132_94 = 5 then
                  B1 (gk M64_18 a132_94 5) fun _ =>
                  B2 (fX4_tells_k5 M64_18 a132_94 p3) fun x132_100 M132_101 =>
                  B1 (rdI M132_101 a132_94 5 3) fun x139_102 =>
                  if x139_102 = 0 then
                    some (x132_100, M132_101)
                  else
                    some ((-15), M132_101)
                else
                  if M64_18.k a132_94 = 6 then
                    B1 (gk M64_18 a132_94 6) fun _ =>
                    B2 (fX3_tells_k6 M64_18 a132_94 p3) fun x132_104 M132_105 =>
                    B1 (rdI M132_105 a132_94 6 3) fun x139_106 =>
                    if x139_106 = 0 then
                      some (x132_104, M132_105)
                    else
                      some ((-15), M132_105)
                  else
                    if M64_18.k a132_94 = 7 then
                      B1 (gk M64_18 a132_94 7) fun _ =>
                      B2 (fX4_tells_k7 M64_18 a132_94 p3) fun x132_108 M132_109 =>
                      B1 (rdI M132_109 a132_94 7 3) fun x139_110 =>
                      if x139_110 = 0 then
                        some (x132_108, M132_109)
                      else
                        some ((-15), M132_109)
                    else
                      if M64_18.k a132_94 = 8 then
                        B1 (gk M64_18 a132_94 8) fun _ =>
                        B2 (fX4_tells_k8 M64_18 a132_94 p3) fun x132_112 M132_113 =>
                        B1 (rdI M132_113 a132_94 8 3) fun x139_114 =>
                        if x139_114 = 0 then
                          some (x132_112, M132_113)
                        else
                          some ((-15), M132_113)
                      else
                        if M64_18.k a132_94 = 12 then
                          B1 (gk M64_18 a132_94 12) fun _ =>
                          B2 (fX9_tells_k12 M64_18 a132_94 p3) fun x132_116 M132_117 =>
                          B1 (rdI M132_117 a132_94 12 3) fun x139_118 =>
                          if x139_118 = 0 then
                            some (x132_116, M132_117)
                          else
                            some ((-15), M132_117)
                        else
                          none)
set_option maxRecDepth 100000 in
set_option maxHeartbeats 4000000 in
theorem qX11_act (l : Launch) (E : Ev) {M : Mm} {o : Nat} {p1 : Int32} {p2 : Int32} {p3 : Int32} {rz : Int32} {Mz : Mm} (hf : fX11_act M o p1 p2 p3 = some (rz, Mz)) : Ct l E yX11_act cX11_act 7 (some .int) 14 296 12 169 [.ref (E.b + o), .int p1, .int p2, .int p3] M (some (.int rz)) Mz := by
  refine ct_of (by decide +kernel) (Nat.le_of_ble_eq_true rfl) fun p e s m args below meth c C hr hin hW ls hl => ?_
  have hl : lv_has ls 7 [(0, .ref (E.b + o)), (1, .int p1), (2, .int p2), (3, .int p3)] := hl
  unfold fX11_act at hf
  refine lv_aload_n C.x C.b dX11_act_0 rfl (lv_at hl 0 rfl) ?_
  replace hf := x_b1 hf; obtain ⟨a1_1, ha1_1, hf⟩ := hf
  refine x_getn C hW fg_X11_65_14 ha1_1 dX11_act_1 ?_
  replace hf := x_b1 hf; obtain ⟨_, hk4_2, hf⟩ := hf
  replace hf := x_b1 hf; obtain ⟨M4_3, hM4_3, hf⟩ := hf
  refine x_callV (As := []) (a := a1_1) (rest := []) C hW hl (qJx4a65c_clear_da8c8 l E hM4_3) (x_gk hk4_2) (by decide) (by decide) rfl gv_X11_328 ⟨rfl, hd_Jx4a65c_clear_da8c8⟩ rfl rfl (Nat.le_of_ble_eq_true rfl) dX11_act_4 ⟨Nat.le_of_ble_eq_true rfl, Nat.le_of_ble_eq_true rfl⟩ ⟨Nat.le_of_ble_eq_true rfl, Nat.le_of_ble_eq_true rfl⟩ (fun H locs hW => ?_)
  refine lv_iload_n C.x C.b dX11_act_7 rfl (lv_at hl 1 rfl) ?_
  replace hf := x_b1 hf; obtain ⟨x8_4, hx8_4, hf⟩ := hf
  refine x_callS (As := [.int p1]) (rest := []) C hW hl (qX11_isShelf l E hx8_4) gs_X11_322 hd_X11_isShelf rfl rfl (Nat.le_of_ble_eq_true rfl) dX11_act_8 ⟨Nat.le_of_ble_eq_true rfl, Nat.le_of_ble_eq_true rfl⟩ ⟨Nat.le_of_ble_eq_true rfl, Nat.le_of_ble_eq_true rfl⟩ (fun H locs hW => ?_)
  refine lv_if_eq (tgt := 23) C.x C.b dX11_act_11 rfl (fun c11 => ?_) (fun c11 => ?_)
  · replace hf := x_ip c11 hf
    refine lv_iconst (v := 0) C.x C.b dX11_act_23 (by decide) ?_
    refine W.widen (k := 12) (n := 169) (Nat.le_of_ble_eq_true rfl) (Nat.le_of_ble_eq_true rfl) ?_
    rw [x_e1 hf, x_e2 hf]
    exact x_iret C hr hW dX11_act_24
  · replace hf := x_in c11 hf
    refine lv_iload_n C.x C.b dX11_act_14 rfl (lv_at hl 2 rfl) ?_
    refine lv_iconst (v := 0) C.x C.b dX11_act_15 (by decide) ?_
    refine lv_iconst (v := 3) C.x C.b dX11_act_16 (by decide) ?_
    replace hf := x_b1 hf; obtain ⟨x17_5, hx17_5, hf⟩ := hf
    refine x_callS (As := [.int p2, .int 0, .int 3]) (rest := []) C hW hl (qX11_isWithin l E hx17_5) gs_X11_69 hd_X11_isWithin rfl rfl (Nat.le_of_ble_eq_true rfl) dX11_act_17 ⟨Nat.le_of_ble_eq_true rfl, Nat.le_of_ble_eq_true rfl⟩ ⟨Nat.le_of_ble_eq_true rfl, Nat.le_of_ble_eq_true rfl⟩ (fun H locs hW => ?_)
    refine lv_if_ne (tgt := 25) C.x C.b dX11_act_20 rfl (fun c20 => ?_) (fun c20 => ?_)
    · replace hf := x_in c20 hf
      refine lv_aload_n C.x C.b dX11_act_25 rfl (lv_at hl 0 rfl) ?_
      replace hf := x_b1 hf; obtain ⟨a26_6, ha26_6, hf⟩ := hf
      refine x_getn C hW fg_X11_10_14 ha26_6 dX11_act_26 ?_
      refine lv_aload_n C.x C.b dX11_act_29 rfl (lv_at hl 0 rfl) ?_
      replace hf := x_b1 hf; obtain ⟨a30_7, ha30_7, hf⟩ := hf
      refine x_getn C hW fg_X11_55_14 ha30_7 dX11_act_30 ?_
      refine lv_iload_n C.x C.b dX11_act_33 rfl (lv_at hl 1 rfl) ?_
      replace hf := x_b1 hf; obtain ⟨x34_8, hx34_8, hf⟩ := hf
      refine x_iald C hW hx34_8 dX11_act_34 ?_
      replace hf := x_b1 hf; obtain ⟨_, hk35_9, hf⟩ := hf
      replace hf := x_b1 hf; obtain ⟨x35_10, hx35_10, hf⟩ := hf
      refine x_callV (As := [.int x34_8]) (a := a26_6) (rest := []) C hW hl (qX0_stockingAt l E hx35_10) (x_gk hk35_9) (by decide) (by decide) rfl gv_X11_120 ⟨rfl, hd_X0_stockingAt⟩ rfl rfl (Nat.le_of_ble_eq_true rfl) dX11_act_35 ⟨Nat.le_of_ble_eq_true rfl, Nat.le_of_ble_eq_true rfl⟩ ⟨Nat.le_of_ble_eq_true rfl, Nat.le_of_ble_eq_true rfl⟩ (fun H locs hW => ?_)
      refine x_astore (lv' := [(4, rv E.b _), (0, .ref (E.b + _)), (1, .int _), (2, .int _), (3, .int _)]) C dX11_act_38 hl (by decide) rfl (fun ls hl => ?_)
      refine x_aload C dX11_act_40 (lv_at hl 0 rfl) ?_
      replace hf := x_nl hf; rcases hf with ⟨rfl, hf⟩ | ⟨a42_11, rfl, hf⟩
      · refine lv_ifnonnullN C.x C.b dX11_act_42 ?_
        refine lv_iconst (v := 0) C.x C.b dX11_act_45 (by decide) ?_
        refine W.widen (k := 12) (n := 169) (Nat.le_of_ble_eq_true rfl) (Nat.le_of_ble_eq_true rfl) ?_
        rw [x_e1 hf, x_e2 hf]
        exact x_iret C hr hW dX11_act_46
      · refine lv_ifnonnull (tgt := 47) C.x C.b dX11_act_42 rfl ?_
        refine lv_aload_n C.x C.b dX11_act_47 rfl (lv_at hl 1 rfl) ?_
        refine lv_aload C.x C.b dX11_act_48 (lv_at hl 0 rfl) ?_
        replace hf := x_b1 hf; obtain ⟨x50_12, hx50_12, hf⟩ := hf
        refine x_geti C hW fg_X11_124_10 hx50_12 dX11_act_50 ?_
        refine lv_aload_n C.x C.b dX11_act_53 rfl (lv_at hl 1 rfl) ?_
        replace hf := x_b1 hf; obtain ⟨a54_13, ha54_13, hf⟩ := hf
        refine x_getn C hW fg_X11_55_14 ha54_13 dX11_act_54 ?_
        refine lv_iload_n C.x C.b dX11_act_57 rfl (lv_at hl 2 rfl) ?_
        replace hf := x_b1 hf; obtain ⟨x58_14, hx58_14, hf⟩ := hf
        refine x_iald C hW hx58_14 dX11_act_58 ?_
        refine lv_aload C.x C.b dX11_act_59 (lv_at hl 0 rfl) ?_
        replace hf := x_b1 hf; obtain ⟨x61_15, hx61_15, hf⟩ := hf
        refine x_geti C hW fg_X11_127_10 hx61_15 dX11_act_61 ?_
        replace hf := x_b1 hf; obtain ⟨_, hk64_16, hf⟩ := hf
        replace hf := x_b2 hf; obtain ⟨x64_17, M64_18, hx64_17, hf⟩ := hf
        refine x_callV (As := [.int x50_12, .int x58_14, .int x61_15]) (a := o) (rest := []) C hW hl (qX11_thingOf l E hx64_17) (x_gk hk64_16) (by decide) (by decide) rfl gv_X11_331 ⟨rfl, hd_X11_thingOf⟩ rfl rfl (Nat.le_of_ble_eq_true rfl) dX11_act_64 ⟨Nat.le_of_ble_eq_true rfl, Nat.le_of_ble_eq_true rfl⟩ ⟨Nat.le_of_ble_eq_true rfl, Nat.le_of_ble_eq_true rfl⟩ (fun H locs hW => ?_)
        refine x_astore (lv' := [(5, rv E.b _), (4, .ref (E.b + _)), (0, .ref (E.b + _)), (1, .int _), (2, .int _), (3, .int _)]) C dX11_act_67 hl (by decide) rfl (fun ls hl => ?_)
        refine lv_iload_n C.x C.b dX11_act_69 rfl (lv_at hl 4 rfl) ?_
        by_cases s70_0 : p2 = 0
        · replace hf := x_ip s70_0 hf
          refine lv_tableIn (off := 26) (tgt := 96) C.x C.b dX11_act_70 (by rw [s70_0]; decide) (by rw [s70_0]; decide) (by rw [s70_0]; rfl) rfl ?_
          refine x_aload C dX11_act_96 (lv_at hl 0 rfl) ?_
          refine lv_iload_n C.x C.b dX11_act_98 rfl (lv_at hl 5 rfl) ?_
          replace hf := x_b1 hf; obtain ⟨a99_19, rfl, hf⟩ := hf
          by_cases hk4 : M64_18.k a99_19 = 4
          · replace hf := x_ip hk4 hf
            replace hf := x_b1 hf; obtain ⟨_, hk99_20, hf⟩ := hf
            replace hf := x_b2 hf; obtain ⟨x99_21, M99_22, hx99_21, hf⟩ := hf
            refine x_callO (owner := "NylonLadder$Plain") (x := ⟨"NylonLadder$Plain", "runs", "(I)I"⟩) (As := [.int p3]) (a := a99_19) (rest := []) C hW hl (qX1_runs_k4 l E hx99_21) (x_gk hk99_20) (by decide) (by decide) rfl gu_X11_335_4 T_5_158 hdo_X11_335 rfl rfl (Nat.le_of_ble_eq_true rfl) dX11_act_99 ⟨Nat.le_of_ble_eq_true rfl, Nat.le_of_ble_eq_true rfl⟩ ⟨Nat.le_of_ble_eq_true rfl, Nat.le_of_ble_eq_true rfl⟩ (fun H locs hW => ?_)
            refine lv_istore (lv' := [(6, .int _), (5, .ref (E.b + _)), (4, .ref (E.b + _)), (0, .ref (E.b + _)), (1, .int _), (2, .int _), (3, .int _)]) C.x C.b dX11_act_102 hl (by decide) rfl (fun ls hl => ?_)
            refine lv_goto (tgt := 137) C.x C.b dX11_act_104 rfl ?_
            refine lv_aload C.x C.b dX11_act_137 (lv_at hl 1 rfl) ?_
            replace hf := x_b1 hf; obtain ⟨x139_23, hx139_23, hf⟩ := hf
            refine x_geti C hW fg_X11_349_4 hx139_23 dX11_act_139 ?_
            refine lv_if_eq (tgt := 150) C.x C.b dX11_act_142 rfl (fun c142 => ?_) (fun c142 => ?_)
            · replace hf := x_ip c142 hf
              refine lv_iload C.x C.b dX11_act_150 (lv_at hl 0 rfl) ?_
              refine W.widen (k := 12) (n := 169) (Nat.le_of_ble_eq_true rfl) (Nat.le_of_ble_eq_true rfl) ?_
              rw [x_e1 hf, x_e2 hf]
              exact x_iret C hr hW dX11_act_152
            · replace hf := x_in c142 hf
              refine lv_bipush (v := (-15)) C.x C.b dX11_act_145 (by decide) ?_
              refine lv_goto (tgt := 152) C.x C.b dX11_act_147 rfl ?_
              refine W.widen (k := 12) (n := 169) (Nat.le_of_ble_eq_true rfl) (Nat.le_of_ble_eq_true rfl) ?_
              rw [x_e1 hf, x_e2 hf]
              exact x_iret C hr hW dX11_act_152
          · replace hf := x_in hk4 hf
            by_cases hk5 : M64_18.k a99_19 = 5
            · replace hf := x_ip hk5 hf
              replace hf := x_b1 hf; obtain ⟨_, hk99_24, hf⟩ := hf
              replace hf := x_b2 hf; obtain ⟨x99_25, M99_26, hx99_25, hf⟩ := hf
              refine x_callO (owner := "NylonLadder$Plain") (x := ⟨"NylonLadder$Plain", "runs", "(I)I"⟩) (As := [.int p3]) (a := a99_19) (rest := []) C hW hl (qX2_runs_k5 l E hx99_25) (x_gk hk99_24) (by decide) (by decide) rfl gu_X11_335_5 T_5_158 hdo_X11_335 rfl rfl (Nat.le_of_ble_eq_true rfl) dX11_act_99 ⟨Nat.le_of_ble_eq_true rfl, Nat.le_of_ble_eq_true rfl⟩ ⟨Nat.le_of_ble_eq_true rfl, Nat.le_of_ble_eq_true rfl⟩ (fun H locs hW => ?_)
              refine lv_istore (lv' := [(6, .int _), (5, .ref (E.b + _)), (4, .ref (E.b + _)), (0, .ref (E.b + _)), (1, .int _), (2, .int _), (3, .int _)]) C.x C.b dX11_act_102 hl (by decide) rfl (fun ls hl => ?_)
              refine lv_goto (tgt := 137) C.x C.b dX11_act_104 rfl ?_
              refine lv_aload C.x C.b dX11_act_137 (lv_at hl 1 rfl) ?_
              replace hf := x_b1 hf; obtain ⟨x139_27, hx139_27, hf⟩ := hf
              refine x_geti C hW fg_X11_349_5 hx139_27 dX11_act_139 ?_
              refine lv_if_eq (tgt := 150) C.x C.b dX11_act_142 rfl (fun c142 => ?_) (fun c142 => ?_)
              · replace hf := x_ip c142 hf
                refine lv_iload C.x C.b dX11_act_150 (lv_at hl 0 rfl) ?_
                refine W.widen (k := 12) (n := 169) (Nat.le_of_ble_eq_true rfl) (Nat.le_of_ble_eq_true rfl) ?_
                rw [x_e1 hf, x_e2 hf]
                exact x_iret C hr hW dX11_act_152
              · replace hf := x_in c142 hf
                refine lv_bipush (v := (-15)) C.x C.b dX11_act_145 (by decide) ?_
                refine lv_goto (tgt := 152) C.x C.b dX11_act_147 rfl ?_
                refine W.widen (k := 12) (n := 169) (Nat.le_of_ble_eq_true rfl) (Nat.le_of_ble_eq_true rfl) ?_
                rw [x_e1 hf, x_e2 hf]
                exact x_iret C hr hW dX11_act_152
            · replace hf := x_in hk5 hf
              by_cases hk6 : M64_18.k a99_19 = 6
              · replace hf := x_ip hk6 hf
                replace hf := x_b1 hf; obtain ⟨_, hk99_28, hf⟩ := hf
                replace hf := x_b2 hf; obtain ⟨x99_29, M99_30, hx99_29, hf⟩ := hf
                refine x_callU (owner := "NylonLadder$Plain") (x := ⟨"NylonLadder$Plain", "runs", "(I)I"⟩) (As := [.int p3]) (a := a99_19) (rest := []) C hW hl (qX4_runs_k6 l E hx99_29) (x_gk hk99_28) (by decide) (by decide) rfl gu_X11_335_6 rfl hdo_X11_335 rfl rfl (Nat.le_of_ble_eq_true rfl) dX11_act_99 ⟨Nat.le_of_ble_eq_true rfl, Nat.le_of_ble_eq_true rfl⟩ ⟨Nat.le_of_ble_eq_true rfl, Nat.le_of_ble_eq_true rfl⟩ (fun H locs hW => ?_)
                refine lv_istore (lv' := [(6, .int _), (5, .ref (E.b + _)), (4, .ref (E.b + _)), (0, .ref (E.b + _)), (1, .int _), (2, .int _), (3, .int _)]) C.x C.b dX11_act_102 hl (by decide) rfl (fun ls hl => ?_)
                refine lv_goto (tgt := 137) C.x C.b dX11_act_104 rfl ?_
                refine lv_aload C.x C.b dX11_act_137 (lv_at hl 1 rfl) ?_
                replace hf := x_b1 hf; obtain ⟨x139_31, hx139_31, hf⟩ := hf
                refine x_geti C hW fg_X11_349_6 hx139_31 dX11_act_139 ?_
                refine lv_if_eq (tgt := 150) C.x C.b dX11_act_142 rfl (fun c142 => ?_) (fun c142 => ?_)
                · replace hf := x_ip c142 hf
                  refine lv_iload C.x C.b dX11_act_150 (lv_at hl 0 rfl) ?_
                  refine W.widen (k := 12) (n := 169) (Nat.le_of_ble_eq_true rfl) (Nat.le_of_ble_eq_true rfl) ?_
                  rw [x_e1 hf, x_e2 hf]
                  exact x_iret C hr hW dX11_act_152
                · replace hf := x_in c142 hf
                  refine lv_bipush (v := (-15)) C.x C.b dX11_act_145 (by decide) ?_
                  refine lv_goto (tgt := 152) C.x C.b dX11_act_147 rfl ?_
                  refine W.widen (k := 12) (n := 169) (Nat.le_of_ble_eq_true rfl) (Nat.le_of_ble_eq_true rfl) ?_
                  rw [x_e1 hf, x_e2 hf]
                  exact x_iret C hr hW dX11_act_152
              · replace hf := x_in hk6 hf
                by_cases hk7 : M64_18.k a99_19 = 7
                · replace hf := x_ip hk7 hf
                  replace hf := x_b1 hf; obtain ⟨_, hk99_32, hf⟩ := hf
                  replace hf := x_b2 hf; obtain ⟨x99_33, M99_34, hx99_33, hf⟩ := hf
                  refine x_callV (As := [.int p3]) (a := a99_19) (rest := []) C hW hl (qX4_runs_k7 l E hx99_33) (x_gk hk99_32) (by decide) (by decide) rfl gu_X11_335_7 ⟨rfl, hd_X4_runs⟩ rfl rfl (Nat.le_of_ble_eq_true rfl) dX11_act_99 ⟨Nat.le_of_ble_eq_true rfl, Nat.le_of_ble_eq_true rfl⟩ ⟨Nat.le_of_ble_eq_true rfl, Nat.le_of_ble_eq_true rfl⟩ (fun H locs hW => ?_)
                  refine lv_istore (lv' := [(6, .int _), (5, .ref (E.b + _)), (4, .ref (E.b + _)), (0, .ref (E.b + _)), (1, .int _), (2, .int _), (3, .int _)]) C.x C.b dX11_act_102 hl (by decide) rfl (fun ls hl => ?_)
                  refine lv_goto (tgt := 137) C.x C.b dX11_act_104 rfl ?_
                  refine lv_aload C.x C.b dX11_act_137 (lv_at hl 1 rfl) ?_
                  replace hf := x_b1 hf; obtain ⟨x139_35, hx139_35, hf⟩ := hf
                  refine x_geti C hW fg_X11_349_7 hx139_35 dX11_act_139 ?_
                  refine lv_if_eq (tgt := 150) C.x C.b dX11_act_142 rfl (fun c142 => ?_) (fun c142 => ?_)
                  · replace hf := x_ip c142 hf
                    refine lv_iload C.x C.b dX11_act_150 (lv_at hl 0 rfl) ?_
                    refine W.widen (k := 12) (n := 169) (Nat.le_of_ble_eq_true rfl) (Nat.le_of_ble_eq_true rfl) ?_
                    rw [x_e1 hf, x_e2 hf]
                    exact x_iret C hr hW dX11_act_152
                  · replace hf := x_in c142 hf
                    refine lv_bipush (v := (-15)) C.x C.b dX11_act_145 (by decide) ?_
                    refine lv_goto (tgt := 152) C.x C.b dX11_act_147 rfl ?_
                    refine W.widen (k := 12) (n := 169) (Nat.le_of_ble_eq_true rfl) (Nat.le_of_ble_eq_true rfl) ?_
                    rw [x_e1 hf, x_e2 hf]
                    exact x_iret C hr hW dX11_act_152
                · replace hf := x_in hk7 hf
                  by_cases hk8 : M64_18.k a99_19 = 8
                  · replace hf := x_ip hk8 hf
                    replace hf := x_b1 hf; obtain ⟨_, hk99_36, hf⟩ := hf
                    replace hf := x_b2 hf; obtain ⟨x99_37, M99_38, hx99_37, hf⟩ := hf
                    refine x_callU (owner := "NylonLadder$Plain") (x := ⟨"NylonLadder$Plain", "runs", "(I)I"⟩) (As := [.int p3]) (a := a99_19) (rest := []) C hW hl (qX4_runs_k8 l E hx99_37) (x_gk hk99_36) (by decide) (by decide) rfl gu_X11_335_8 rfl hdo_X11_335 rfl rfl (Nat.le_of_ble_eq_true rfl) dX11_act_99 ⟨Nat.le_of_ble_eq_true rfl, Nat.le_of_ble_eq_true rfl⟩ ⟨Nat.le_of_ble_eq_true rfl, Nat.le_of_ble_eq_true rfl⟩ (fun H locs hW => ?_)
                    refine lv_istore (lv' := [(6, .int _), (5, .ref (E.b + _)), (4, .ref (E.b + _)), (0, .ref (E.b + _)), (1, .int _), (2, .int _), (3, .int _)]) C.x C.b dX11_act_102 hl (by decide) rfl (fun ls hl => ?_)
                    refine lv_goto (tgt := 137) C.x C.b dX11_act_104 rfl ?_
                    refine lv_aload C.x C.b dX11_act_137 (lv_at hl 1 rfl) ?_
                    replace hf := x_b1 hf; obtain ⟨x139_39, hx139_39, hf⟩ := hf
                    refine x_geti C hW fg_X11_349_8 hx139_39 dX11_act_139 ?_
                    refine lv_if_eq (tgt := 150) C.x C.b dX11_act_142 rfl (fun c142 => ?_) (fun c142 => ?_)
                    · replace hf := x_ip c142 hf
                      refine lv_iload C.x C.b dX11_act_150 (lv_at hl 0 rfl) ?_
                      refine W.widen (k := 12) (n := 169) (Nat.le_of_ble_eq_true rfl) (Nat.le_of_ble_eq_true rfl) ?_
                      rw [x_e1 hf, x_e2 hf]
                      exact x_iret C hr hW dX11_act_152
                    · replace hf := x_in c142 hf
                      refine lv_bipush (v := (-15)) C.x C.b dX11_act_145 (by decide) ?_
                      refine lv_goto (tgt := 152) C.x C.b dX11_act_147 rfl ?_
                      refine W.widen (k := 12) (n := 169) (Nat.le_of_ble_eq_true rfl) (Nat.le_of_ble_eq_true rfl) ?_
                      rw [x_e1 hf, x_e2 hf]
                      exact x_iret C hr hW dX11_act_152
                  · replace hf := x_in hk8 hf
                    by_cases hk12 : M64_18.k a99_19 = 12
                    · replace hf := x_ip hk12 hf
                      replace hf := x_b1 hf; obtain ⟨_, hk99_40, hf⟩ := hf
                      replace hf := x_b2 hf; obtain ⟨x99_41, M99_42, hx99_41, hf⟩ := hf
                      refine x_callO (owner := "NylonLadder$Plain") (x := ⟨"NylonLadder$Plain", "runs", "(I)I"⟩) (As := [.int p3]) (a := a99_19) (rest := []) C hW hl (qX9_runs_k12 l E hx99_41) (x_gk hk99_40) (by decide) (by decide) rfl gu_X11_335_12 T_5_158 hdo_X11_335 rfl rfl (Nat.le_of_ble_eq_true rfl) dX11_act_99 ⟨Nat.le_of_ble_eq_true rfl, Nat.le_of_ble_eq_true rfl⟩ ⟨Nat.le_of_ble_eq_true rfl, Nat.le_of_ble_eq_true rfl⟩ (fun H locs hW => ?_)
                      refine lv_istore (lv' := [(6, .int _), (5, .ref (E.b + _)), (4, .ref (E.b + _)), (0, .ref (E.b + _)), (1, .int _), (2, .int _), (3, .int _)]) C.x C.b dX11_act_102 hl (by decide) rfl (fun ls hl => ?_)
                      refine lv_goto (tgt := 137) C.x C.b dX11_act_104 rfl ?_
                      refine lv_aload C.x C.b dX11_act_137 (lv_at hl 1 rfl) ?_
                      replace hf := x_b1 hf; obtain ⟨x139_43, hx139_43, hf⟩ := hf
                      refine x_geti C hW fg_X11_349_12 hx139_43 dX11_act_139 ?_
                      refine lv_if_eq (tgt := 150) C.x C.b dX11_act_142 rfl (fun c142 => ?_) (fun c142 => ?_)
                      · replace hf := x_ip c142 hf
                        refine lv_iload C.x C.b dX11_act_150 (lv_at hl 0 rfl) ?_
                        refine W.widen (k := 12) (n := 169) (Nat.le_of_ble_eq_true rfl) (Nat.le_of_ble_eq_true rfl) ?_
                        rw [x_e1 hf, x_e2 hf]
                        exact x_iret C hr hW dX11_act_152
                      · replace hf := x_in c142 hf
                        refine lv_bipush (v := (-15)) C.x C.b dX11_act_145 (by decide) ?_
                        refine lv_goto (tgt := 152) C.x C.b dX11_act_147 rfl ?_
                        refine W.widen (k := 12) (n := 169) (Nat.le_of_ble_eq_true rfl) (Nat.le_of_ble_eq_true rfl) ?_
                        rw [x_e1 hf, x_e2 hf]
                        exact x_iret C hr hW dX11_act_152
                    · replace hf := x_in hk12 hf
                      cases hf
        · replace hf := x_in s70_0 hf
          by_cases s70_1 : p2 = 1
          · replace hf := x_ip s70_1 hf
            refine lv_tableIn (off := 37) (tgt := 107) C.x C.b dX11_act_70 (by rw [s70_1]; decide) (by rw [s70_1]; decide) (by rw [s70_1]; rfl) rfl ?_
            refine x_aload C dX11_act_107 (lv_at hl 0 rfl) ?_
            refine lv_iload_n C.x C.b dX11_act_109 rfl (lv_at hl 5 rfl) ?_
            replace hf := x_b1 hf; obtain ⟨a110_44, rfl, hf⟩ := hf
            by_cases hk4 : M64_18.k a110_44 = 4
            · replace hf := x_ip hk4 hf
              replace hf := x_b1 hf; obtain ⟨_, hk110_45, hf⟩ := hf
              replace hf := x_b2 hf; obtain ⟨x110_46, M110_47, hx110_46, hf⟩ := hf
              refine x_callO (owner := "NylonLadder$Plain") (x := ⟨"NylonLadder$Plain", "dries", "(I)I"⟩) (As := [.int p3]) (a := a110_44) (rest := []) C hW hl (qX1_dries_k4 l E hx110_46) (x_gk hk110_45) (by decide) (by decide) rfl gu_X11_340_4 T_5_181 hdo_X11_340 rfl rfl (Nat.le_of_ble_eq_true rfl) dX11_act_110 ⟨Nat.le_of_ble_eq_true rfl, Nat.le_of_ble_eq_true rfl⟩ ⟨Nat.le_of_ble_eq_true rfl, Nat.le_of_ble_eq_true rfl⟩ (fun H locs hW => ?_)
              refine lv_istore (lv' := [(6, .int _), (5, .ref (E.b + _)), (4, .ref (E.b + _)), (0, .ref (E.b + _)), (1, .int _), (2, .int _), (3, .int _)]) C.x C.b dX11_act_113 hl (by decide) rfl (fun ls hl => ?_)
              refine lv_goto (tgt := 137) C.x C.b dX11_act_115 rfl ?_
              refine lv_aload C.x C.b dX11_act_137 (lv_at hl 1 rfl) ?_
              replace hf := x_b1 hf; obtain ⟨x139_48, hx139_48, hf⟩ := hf
              refine x_geti C hW fg_X11_349_4 hx139_48 dX11_act_139 ?_
              refine lv_if_eq (tgt := 150) C.x C.b dX11_act_142 rfl (fun c142 => ?_) (fun c142 => ?_)
              · replace hf := x_ip c142 hf
                refine lv_iload C.x C.b dX11_act_150 (lv_at hl 0 rfl) ?_
                refine W.widen (k := 12) (n := 169) (Nat.le_of_ble_eq_true rfl) (Nat.le_of_ble_eq_true rfl) ?_
                rw [x_e1 hf, x_e2 hf]
                exact x_iret C hr hW dX11_act_152
              · replace hf := x_in c142 hf
                refine lv_bipush (v := (-15)) C.x C.b dX11_act_145 (by decide) ?_
                refine lv_goto (tgt := 152) C.x C.b dX11_act_147 rfl ?_
                refine W.widen (k := 12) (n := 169) (Nat.le_of_ble_eq_true rfl) (Nat.le_of_ble_eq_true rfl) ?_
                rw [x_e1 hf, x_e2 hf]
                exact x_iret C hr hW dX11_act_152
            · replace hf := x_in hk4 hf
              by_cases hk5 : M64_18.k a110_44 = 5
              · replace hf := x_ip hk5 hf
                replace hf := x_b1 hf; obtain ⟨_, hk110_49, hf⟩ := hf
                replace hf := x_b2 hf; obtain ⟨x110_50, M110_51, hx110_50, hf⟩ := hf
                refine x_callO (owner := "NylonLadder$Plain") (x := ⟨"NylonLadder$Plain", "dries", "(I)I"⟩) (As := [.int p3]) (a := a110_44) (rest := []) C hW hl (qX5_dries_k5 l E hx110_50) (x_gk hk110_49) (by decide) (by decide) rfl gu_X11_340_5 T_5_181 hdo_X11_340 rfl rfl (Nat.le_of_ble_eq_true rfl) dX11_act_110 ⟨Nat.le_of_ble_eq_true rfl, Nat.le_of_ble_eq_true rfl⟩ ⟨Nat.le_of_ble_eq_true rfl, Nat.le_of_ble_eq_true rfl⟩ (fun H locs hW => ?_)
                refine lv_istore (lv' := [(6, .int _), (5, .ref (E.b + _)), (4, .ref (E.b + _)), (0, .ref (E.b + _)), (1, .int _), (2, .int _), (3, .int _)]) C.x C.b dX11_act_113 hl (by decide) rfl (fun ls hl => ?_)
                refine lv_goto (tgt := 137) C.x C.b dX11_act_115 rfl ?_
                refine lv_aload C.x C.b dX11_act_137 (lv_at hl 1 rfl) ?_
                replace hf := x_b1 hf; obtain ⟨x139_52, hx139_52, hf⟩ := hf
                refine x_geti C hW fg_X11_349_5 hx139_52 dX11_act_139 ?_
                refine lv_if_eq (tgt := 150) C.x C.b dX11_act_142 rfl (fun c142 => ?_) (fun c142 => ?_)
                · replace hf := x_ip c142 hf
                  refine lv_iload C.x C.b dX11_act_150 (lv_at hl 0 rfl) ?_
                  refine W.widen (k := 12) (n := 169) (Nat.le_of_ble_eq_true rfl) (Nat.le_of_ble_eq_true rfl) ?_
                  rw [x_e1 hf, x_e2 hf]
                  exact x_iret C hr hW dX11_act_152
                · replace hf := x_in c142 hf
                  refine lv_bipush (v := (-15)) C.x C.b dX11_act_145 (by decide) ?_
                  refine lv_goto (tgt := 152) C.x C.b dX11_act_147 rfl ?_
                  refine W.widen (k := 12) (n := 169) (Nat.le_of_ble_eq_true rfl) (Nat.le_of_ble_eq_true rfl) ?_
                  rw [x_e1 hf, x_e2 hf]
                  exact x_iret C hr hW dX11_act_152
              · replace hf := x_in hk5 hf
                by_cases hk6 : M64_18.k a110_44 = 6
                · replace hf := x_ip hk6 hf
                  replace hf := x_b1 hf; obtain ⟨_, hk110_53, hf⟩ := hf
                  replace hf := x_b2 hf; obtain ⟨x110_54, M110_55, hx110_54, hf⟩ := hf
                  refine x_callU (owner := "NylonLadder$Plain") (x := ⟨"NylonLadder$Plain", "dries", "(I)I"⟩) (As := [.int p3]) (a := a110_44) (rest := []) C hW hl (qX4_dries_k6 l E hx110_54) (x_gk hk110_53) (by decide) (by decide) rfl gu_X11_340_6 rfl hdo_X11_340 rfl rfl (Nat.le_of_ble_eq_true rfl) dX11_act_110 ⟨Nat.le_of_ble_eq_true rfl, Nat.le_of_ble_eq_true rfl⟩ ⟨Nat.le_of_ble_eq_true rfl, Nat.le_of_ble_eq_true rfl⟩ (fun H locs hW => ?_)
                  refine lv_istore (lv' := [(6, .int _), (5, .ref (E.b + _)), (4, .ref (E.b + _)), (0, .ref (E.b + _)), (1, .int _), (2, .int _), (3, .int _)]) C.x C.b dX11_act_113 hl (by decide) rfl (fun ls hl => ?_)
                  refine lv_goto (tgt := 137) C.x C.b dX11_act_115 rfl ?_
                  refine lv_aload C.x C.b dX11_act_137 (lv_at hl 1 rfl) ?_
                  replace hf := x_b1 hf; obtain ⟨x139_56, hx139_56, hf⟩ := hf
                  refine x_geti C hW fg_X11_349_6 hx139_56 dX11_act_139 ?_
                  refine lv_if_eq (tgt := 150) C.x C.b dX11_act_142 rfl (fun c142 => ?_) (fun c142 => ?_)
                  · replace hf := x_ip c142 hf
                    refine lv_iload C.x C.b dX11_act_150 (lv_at hl 0 rfl) ?_
                    refine W.widen (k := 12) (n := 169) (Nat.le_of_ble_eq_true rfl) (Nat.le_of_ble_eq_true rfl) ?_
                    rw [x_e1 hf, x_e2 hf]
                    exact x_iret C hr hW dX11_act_152
                  · replace hf := x_in c142 hf
                    refine lv_bipush (v := (-15)) C.x C.b dX11_act_145 (by decide) ?_
                    refine lv_goto (tgt := 152) C.x C.b dX11_act_147 rfl ?_
                    refine W.widen (k := 12) (n := 169) (Nat.le_of_ble_eq_true rfl) (Nat.le_of_ble_eq_true rfl) ?_
                    rw [x_e1 hf, x_e2 hf]
                    exact x_iret C hr hW dX11_act_152
                · replace hf := x_in hk6 hf
                  by_cases hk7 : M64_18.k a110_44 = 7
                  · replace hf := x_ip hk7 hf
                    replace hf := x_b1 hf; obtain ⟨_, hk110_57, hf⟩ := hf
                    replace hf := x_b2 hf; obtain ⟨x110_58, M110_59, hx110_58, hf⟩ := hf
                    refine x_callV (As := [.int p3]) (a := a110_44) (rest := []) C hW hl (qX4_dries_k7 l E hx110_58) (x_gk hk110_57) (by decide) (by decide) rfl gu_X11_340_7 ⟨rfl, hd_X4_dries⟩ rfl rfl (Nat.le_of_ble_eq_true rfl) dX11_act_110 ⟨Nat.le_of_ble_eq_true rfl, Nat.le_of_ble_eq_true rfl⟩ ⟨Nat.le_of_ble_eq_true rfl, Nat.le_of_ble_eq_true rfl⟩ (fun H locs hW => ?_)
                    refine lv_istore (lv' := [(6, .int _), (5, .ref (E.b + _)), (4, .ref (E.b + _)), (0, .ref (E.b + _)), (1, .int _), (2, .int _), (3, .int _)]) C.x C.b dX11_act_113 hl (by decide) rfl (fun ls hl => ?_)
                    refine lv_goto (tgt := 137) C.x C.b dX11_act_115 rfl ?_
                    refine lv_aload C.x C.b dX11_act_137 (lv_at hl 1 rfl) ?_
                    replace hf := x_b1 hf; obtain ⟨x139_60, hx139_60, hf⟩ := hf
                    refine x_geti C hW fg_X11_349_7 hx139_60 dX11_act_139 ?_
                    refine lv_if_eq (tgt := 150) C.x C.b dX11_act_142 rfl (fun c142 => ?_) (fun c142 => ?_)
                    · replace hf := x_ip c142 hf
                      refine lv_iload C.x C.b dX11_act_150 (lv_at hl 0 rfl) ?_
                      refine W.widen (k := 12) (n := 169) (Nat.le_of_ble_eq_true rfl) (Nat.le_of_ble_eq_true rfl) ?_
                      rw [x_e1 hf, x_e2 hf]
                      exact x_iret C hr hW dX11_act_152
                    · replace hf := x_in c142 hf
                      refine lv_bipush (v := (-15)) C.x C.b dX11_act_145 (by decide) ?_
                      refine lv_goto (tgt := 152) C.x C.b dX11_act_147 rfl ?_
                      refine W.widen (k := 12) (n := 169) (Nat.le_of_ble_eq_true rfl) (Nat.le_of_ble_eq_true rfl) ?_
                      rw [x_e1 hf, x_e2 hf]
                      exact x_iret C hr hW dX11_act_152
                  · replace hf := x_in hk7 hf
                    by_cases hk8 : M64_18.k a110_44 = 8
                    · replace hf := x_ip hk8 hf
                      replace hf := x_b1 hf; obtain ⟨_, hk110_61, hf⟩ := hf
                      replace hf := x_b2 hf; obtain ⟨x110_62, M110_63, hx110_62, hf⟩ := hf
                      refine x_callO (owner := "NylonLadder$Plain") (x := ⟨"NylonLadder$Plain", "dries", "(I)I"⟩) (As := [.int p3]) (a := a110_44) (rest := []) C hW hl (qX5_dries_k8 l E hx110_62) (x_gk hk110_61) (by decide) (by decide) rfl gu_X11_340_8 T_5_181 hdo_X11_340 rfl rfl (Nat.le_of_ble_eq_true rfl) dX11_act_110 ⟨Nat.le_of_ble_eq_true rfl, Nat.le_of_ble_eq_true rfl⟩ ⟨Nat.le_of_ble_eq_true rfl, Nat.le_of_ble_eq_true rfl⟩ (fun H locs hW => ?_)
                      refine lv_istore (lv' := [(6, .int _), (5, .ref (E.b + _)), (4, .ref (E.b + _)), (0, .ref (E.b + _)), (1, .int _), (2, .int _), (3, .int _)]) C.x C.b dX11_act_113 hl (by decide) rfl (fun ls hl => ?_)
                      refine lv_goto (tgt := 137) C.x C.b dX11_act_115 rfl ?_
                      refine lv_aload C.x C.b dX11_act_137 (lv_at hl 1 rfl) ?_
                      replace hf := x_b1 hf; obtain ⟨x139_64, hx139_64, hf⟩ := hf
                      refine x_geti C hW fg_X11_349_8 hx139_64 dX11_act_139 ?_
                      refine lv_if_eq (tgt := 150) C.x C.b dX11_act_142 rfl (fun c142 => ?_) (fun c142 => ?_)
                      · replace hf := x_ip c142 hf
                        refine lv_iload C.x C.b dX11_act_150 (lv_at hl 0 rfl) ?_
                        refine W.widen (k := 12) (n := 169) (Nat.le_of_ble_eq_true rfl) (Nat.le_of_ble_eq_true rfl) ?_
                        rw [x_e1 hf, x_e2 hf]
                        exact x_iret C hr hW dX11_act_152
                      · replace hf := x_in c142 hf
                        refine lv_bipush (v := (-15)) C.x C.b dX11_act_145 (by decide) ?_
                        refine lv_goto (tgt := 152) C.x C.b dX11_act_147 rfl ?_
                        refine W.widen (k := 12) (n := 169) (Nat.le_of_ble_eq_true rfl) (Nat.le_of_ble_eq_true rfl) ?_
                        rw [x_e1 hf, x_e2 hf]
                        exact x_iret C hr hW dX11_act_152
                    · replace hf := x_in hk8 hf
                      by_cases hk12 : M64_18.k a110_44 = 12
                      · replace hf := x_ip hk12 hf
                        replace hf := x_b1 hf; obtain ⟨_, hk110_65, hf⟩ := hf
                        replace hf := x_b2 hf; obtain ⟨x110_66, M110_67, hx110_66, hf⟩ := hf
                        refine x_callU (owner := "NylonLadder$Plain") (x := ⟨"NylonLadder$Plain", "dries", "(I)I"⟩) (As := [.int p3]) (a := a110_44) (rest := []) C hW hl (qX4_dries_k12 l E hx110_66) (x_gk hk110_65) (by decide) (by decide) rfl gu_X11_340_12 rfl hdo_X11_340 rfl rfl (Nat.le_of_ble_eq_true rfl) dX11_act_110 ⟨Nat.le_of_ble_eq_true rfl, Nat.le_of_ble_eq_true rfl⟩ ⟨Nat.le_of_ble_eq_true rfl, Nat.le_of_ble_eq_true rfl⟩ (fun H locs hW => ?_)
                        refine lv_istore (lv' := [(6, .int _), (5, .ref (E.b + _)), (4, .ref (E.b + _)), (0, .ref (E.b + _)), (1, .int _), (2, .int _), (3, .int _)]) C.x C.b dX11_act_113 hl (by decide) rfl (fun ls hl => ?_)
                        refine lv_goto (tgt := 137) C.x C.b dX11_act_115 rfl ?_
                        refine lv_aload C.x C.b dX11_act_137 (lv_at hl 1 rfl) ?_
                        replace hf := x_b1 hf; obtain ⟨x139_68, hx139_68, hf⟩ := hf
                        refine x_geti C hW fg_X11_349_12 hx139_68 dX11_act_139 ?_
                        refine lv_if_eq (tgt := 150) C.x C.b dX11_act_142 rfl (fun c142 => ?_) (fun c142 => ?_)
                        · replace hf := x_ip c142 hf
                          refine lv_iload C.x C.b dX11_act_150 (lv_at hl 0 rfl) ?_
                          refine W.widen (k := 12) (n := 169) (Nat.le_of_ble_eq_true rfl) (Nat.le_of_ble_eq_true rfl) ?_
                          rw [x_e1 hf, x_e2 hf]
                          exact x_iret C hr hW dX11_act_152
                        · replace hf := x_in c142 hf
                          refine lv_bipush (v := (-15)) C.x C.b dX11_act_145 (by decide) ?_
                          refine lv_goto (tgt := 152) C.x C.b dX11_act_147 rfl ?_
                          refine W.widen (k := 12) (n := 169) (Nat.le_of_ble_eq_true rfl) (Nat.le_of_ble_eq_true rfl) ?_
                          rw [x_e1 hf, x_e2 hf]
                          exact x_iret C hr hW dX11_act_152
                      · replace hf := x_in hk12 hf
                        cases hf
          · replace hf := x_in s70_1 hf
            by_cases s70_2 : p2 = 2
            · replace hf := x_ip s70_2 hf
              refine lv_tableIn (off := 48) (tgt := 118) C.x C.b dX11_act_70 (by rw [s70_2]; decide) (by rw [s70_2]; decide) (by rw [s70_2]; rfl) rfl ?_
              refine x_aload C dX11_act_118 (lv_at hl 0 rfl) ?_
              refine lv_iload_n C.x C.b dX11_act_120 rfl (lv_at hl 5 rfl) ?_
              replace hf := x_b1 hf; obtain ⟨a121_69, rfl, hf⟩ := hf
              by_cases hk4 : M64_18.k a121_69 = 4
              · replace hf := x_ip hk4 hf
                replace hf := x_b1 hf; obtain ⟨_, hk121_70, hf⟩ := hf
                replace hf := x_b2 hf; obtain ⟨x121_71, M121_72, hx121_71, hf⟩ := hf
                refine x_callU (owner := "NylonLadder$Plain") (x := ⟨"NylonLadder$Plain", "holds", "(I)I"⟩) (As := [.int p3]) (a := a121_69) (rest := []) C hW hl (qX4_holds_k4 l E hx121_71) (x_gk hk121_70) (by decide) (by decide) rfl gu_X11_343_4 rfl hdo_X11_343 rfl rfl (Nat.le_of_ble_eq_true rfl) dX11_act_121 ⟨Nat.le_of_ble_eq_true rfl, Nat.le_of_ble_eq_true rfl⟩ ⟨Nat.le_of_ble_eq_true rfl, Nat.le_of_ble_eq_true rfl⟩ (fun H locs hW => ?_)
                refine lv_istore (lv' := [(6, .int _), (5, .ref (E.b + _)), (4, .ref (E.b + _)), (0, .ref (E.b + _)), (1, .int _), (2, .int _), (3, .int _)]) C.x C.b dX11_act_124 hl (by decide) rfl (fun ls hl => ?_)
                refine lv_goto (tgt := 137) C.x C.b dX11_act_126 rfl ?_
                refine lv_aload C.x C.b dX11_act_137 (lv_at hl 1 rfl) ?_
                replace hf := x_b1 hf; obtain ⟨x139_73, hx139_73, hf⟩ := hf
                refine x_geti C hW fg_X11_349_4 hx139_73 dX11_act_139 ?_
                refine lv_if_eq (tgt := 150) C.x C.b dX11_act_142 rfl (fun c142 => ?_) (fun c142 => ?_)
                · replace hf := x_ip c142 hf
                  refine lv_iload C.x C.b dX11_act_150 (lv_at hl 0 rfl) ?_
                  refine W.widen (k := 12) (n := 169) (Nat.le_of_ble_eq_true rfl) (Nat.le_of_ble_eq_true rfl) ?_
                  rw [x_e1 hf, x_e2 hf]
                  exact x_iret C hr hW dX11_act_152
                · replace hf := x_in c142 hf
                  refine lv_bipush (v := (-15)) C.x C.b dX11_act_145 (by decide) ?_
                  refine lv_goto (tgt := 152) C.x C.b dX11_act_147 rfl ?_
                  refine W.widen (k := 12) (n := 169) (Nat.le_of_ble_eq_true rfl) (Nat.le_of_ble_eq_true rfl) ?_
                  rw [x_e1 hf, x_e2 hf]
                  exact x_iret C hr hW dX11_act_152
              · replace hf := x_in hk4 hf
                by_cases hk5 : M64_18.k a121_69 = 5
                · replace hf := x_ip hk5 hf
                  replace hf := x_b1 hf; obtain ⟨_, hk121_74, hf⟩ := hf
                  replace hf := x_b2 hf; obtain ⟨x121_75, M121_76, hx121_75, hf⟩ := hf
                  refine x_callO (owner := "NylonLadder$Plain") (x := ⟨"NylonLadder$Plain", "holds", "(I)I"⟩) (As := [.int p3]) (a := a121_69) (rest := []) C hW hl (qX2_holds_k5 l E hx121_75) (x_gk hk121_74) (by decide) (by decide) rfl gu_X11_343_5 T_5_205 hdo_X11_343 rfl rfl (Nat.le_of_ble_eq_true rfl) dX11_act_121 ⟨Nat.le_of_ble_eq_true rfl, Nat.le_of_ble_eq_true rfl⟩ ⟨Nat.le_of_ble_eq_true rfl, Nat.le_of_ble_eq_true rfl⟩ (fun H locs hW => ?_)
                  refine lv_istore (lv' := [(6, .int _), (5, .ref (E.b + _)), (4, .ref (E.b + _)), (0, .ref (E.b + _)), (1, .int _), (2, .int _), (3, .int _)]) C.x C.b dX11_act_124 hl (by decide) rfl (fun ls hl => ?_)
                  refine lv_goto (tgt := 137) C.x C.b dX11_act_126 rfl ?_
                  refine lv_aload C.x C.b dX11_act_137 (lv_at hl 1 rfl) ?_
                  replace hf := x_b1 hf; obtain ⟨x139_77, hx139_77, hf⟩ := hf
                  refine x_geti C hW fg_X11_349_5 hx139_77 dX11_act_139 ?_
                  refine lv_if_eq (tgt := 150) C.x C.b dX11_act_142 rfl (fun c142 => ?_) (fun c142 => ?_)
                  · replace hf := x_ip c142 hf
                    refine lv_iload C.x C.b dX11_act_150 (lv_at hl 0 rfl) ?_
                    refine W.widen (k := 12) (n := 169) (Nat.le_of_ble_eq_true rfl) (Nat.le_of_ble_eq_true rfl) ?_
                    rw [x_e1 hf, x_e2 hf]
                    exact x_iret C hr hW dX11_act_152
                  · replace hf := x_in c142 hf
                    refine lv_bipush (v := (-15)) C.x C.b dX11_act_145 (by decide) ?_
                    refine lv_goto (tgt := 152) C.x C.b dX11_act_147 rfl ?_
                    refine W.widen (k := 12) (n := 169) (Nat.le_of_ble_eq_true rfl) (Nat.le_of_ble_eq_true rfl) ?_
                    rw [x_e1 hf, x_e2 hf]
                    exact x_iret C hr hW dX11_act_152
                · replace hf := x_in hk5 hf
                  by_cases hk6 : M64_18.k a121_69 = 6
                  · replace hf := x_ip hk6 hf
                    replace hf := x_b1 hf; obtain ⟨_, hk121_78, hf⟩ := hf
                    replace hf := x_b2 hf; obtain ⟨x121_79, M121_80, hx121_79, hf⟩ := hf
                    refine x_callO (owner := "NylonLadder$Plain") (x := ⟨"NylonLadder$Plain", "holds", "(I)I"⟩) (As := [.int p3]) (a := a121_69) (rest := []) C hW hl (qX3_holds_k6 l E hx121_79) (x_gk hk121_78) (by decide) (by decide) rfl gu_X11_343_6 T_5_205 hdo_X11_343 rfl rfl (Nat.le_of_ble_eq_true rfl) dX11_act_121 ⟨Nat.le_of_ble_eq_true rfl, Nat.le_of_ble_eq_true rfl⟩ ⟨Nat.le_of_ble_eq_true rfl, Nat.le_of_ble_eq_true rfl⟩ (fun H locs hW => ?_)
                    refine lv_istore (lv' := [(6, .int _), (5, .ref (E.b + _)), (4, .ref (E.b + _)), (0, .ref (E.b + _)), (1, .int _), (2, .int _), (3, .int _)]) C.x C.b dX11_act_124 hl (by decide) rfl (fun ls hl => ?_)
                    refine lv_goto (tgt := 137) C.x C.b dX11_act_126 rfl ?_
                    refine lv_aload C.x C.b dX11_act_137 (lv_at hl 1 rfl) ?_
                    replace hf := x_b1 hf; obtain ⟨x139_81, hx139_81, hf⟩ := hf
                    refine x_geti C hW fg_X11_349_6 hx139_81 dX11_act_139 ?_
                    refine lv_if_eq (tgt := 150) C.x C.b dX11_act_142 rfl (fun c142 => ?_) (fun c142 => ?_)
                    · replace hf := x_ip c142 hf
                      refine lv_iload C.x C.b dX11_act_150 (lv_at hl 0 rfl) ?_
                      refine W.widen (k := 12) (n := 169) (Nat.le_of_ble_eq_true rfl) (Nat.le_of_ble_eq_true rfl) ?_
                      rw [x_e1 hf, x_e2 hf]
                      exact x_iret C hr hW dX11_act_152
                    · replace hf := x_in c142 hf
                      refine lv_bipush (v := (-15)) C.x C.b dX11_act_145 (by decide) ?_
                      refine lv_goto (tgt := 152) C.x C.b dX11_act_147 rfl ?_
                      refine W.widen (k := 12) (n := 169) (Nat.le_of_ble_eq_true rfl) (Nat.le_of_ble_eq_true rfl) ?_
                      rw [x_e1 hf, x_e2 hf]
                      exact x_iret C hr hW dX11_act_152
                  · replace hf := x_in hk6 hf
                    by_cases hk7 : M64_18.k a121_69 = 7
                    · replace hf := x_ip hk7 hf
                      replace hf := x_b1 hf; obtain ⟨_, hk121_82, hf⟩ := hf
                      replace hf := x_b2 hf; obtain ⟨x121_83, M121_84, hx121_83, hf⟩ := hf
                      refine x_callV (As := [.int p3]) (a := a121_69) (rest := []) C hW hl (qX4_holds_k7 l E hx121_83) (x_gk hk121_82) (by decide) (by decide) rfl gu_X11_343_7 ⟨rfl, hd_X4_holds⟩ rfl rfl (Nat.le_of_ble_eq_true rfl) dX11_act_121 ⟨Nat.le_of_ble_eq_true rfl, Nat.le_of_ble_eq_true rfl⟩ ⟨Nat.le_of_ble_eq_true rfl, Nat.le_of_ble_eq_true rfl⟩ (fun H locs hW => ?_)
                      refine lv_istore (lv' := [(6, .int _), (5, .ref (E.b + _)), (4, .ref (E.b + _)), (0, .ref (E.b + _)), (1, .int _), (2, .int _), (3, .int _)]) C.x C.b dX11_act_124 hl (by decide) rfl (fun ls hl => ?_)
                      refine lv_goto (tgt := 137) C.x C.b dX11_act_126 rfl ?_
                      refine lv_aload C.x C.b dX11_act_137 (lv_at hl 1 rfl) ?_
                      replace hf := x_b1 hf; obtain ⟨x139_85, hx139_85, hf⟩ := hf
                      refine x_geti C hW fg_X11_349_7 hx139_85 dX11_act_139 ?_
                      refine lv_if_eq (tgt := 150) C.x C.b dX11_act_142 rfl (fun c142 => ?_) (fun c142 => ?_)
                      · replace hf := x_ip c142 hf
                        refine lv_iload C.x C.b dX11_act_150 (lv_at hl 0 rfl) ?_
                        refine W.widen (k := 12) (n := 169) (Nat.le_of_ble_eq_true rfl) (Nat.le_of_ble_eq_true rfl) ?_
                        rw [x_e1 hf, x_e2 hf]
                        exact x_iret C hr hW dX11_act_152
                      · replace hf := x_in c142 hf
                        refine lv_bipush (v := (-15)) C.x C.b dX11_act_145 (by decide) ?_
                        refine lv_goto (tgt := 152) C.x C.b dX11_act_147 rfl ?_
                        refine W.widen (k := 12) (n := 169) (Nat.le_of_ble_eq_true rfl) (Nat.le_of_ble_eq_true rfl) ?_
                        rw [x_e1 hf, x_e2 hf]
                        exact x_iret C hr hW dX11_act_152
                    · replace hf := x_in hk7 hf
                      by_cases hk8 : M64_18.k a121_69 = 8
                      · replace hf := x_ip hk8 hf
                        replace hf := x_b1 hf; obtain ⟨_, hk121_86, hf⟩ := hf
                        replace hf := x_b2 hf; obtain ⟨x121_87, M121_88, hx121_87, hf⟩ := hf
                        refine x_callU (owner := "NylonLadder$Plain") (x := ⟨"NylonLadder$Plain", "holds", "(I)I"⟩) (As := [.int p3]) (a := a121_69) (rest := []) C hW hl (qX4_holds_k8 l E hx121_87) (x_gk hk121_86) (by decide) (by decide) rfl gu_X11_343_8 rfl hdo_X11_343 rfl rfl (Nat.le_of_ble_eq_true rfl) dX11_act_121 ⟨Nat.le_of_ble_eq_true rfl, Nat.le_of_ble_eq_true rfl⟩ ⟨Nat.le_of_ble_eq_true rfl, Nat.le_of_ble_eq_true rfl⟩ (fun H locs hW => ?_)
                        refine lv_istore (lv' := [(6, .int _), (5, .ref (E.b + _)), (4, .ref (E.b + _)), (0, .ref (E.b + _)), (1, .int _), (2, .int _), (3, .int _)]) C.x C.b dX11_act_124 hl (by decide) rfl (fun ls hl => ?_)
                        refine lv_goto (tgt := 137) C.x C.b dX11_act_126 rfl ?_
                        refine lv_aload C.x C.b dX11_act_137 (lv_at hl 1 rfl) ?_
                        replace hf := x_b1 hf; obtain ⟨x139_89, hx139_89, hf⟩ := hf
                        refine x_geti C hW fg_X11_349_8 hx139_89 dX11_act_139 ?_
                        refine lv_if_eq (tgt := 150) C.x C.b dX11_act_142 rfl (fun c142 => ?_) (fun c142 => ?_)
                        · replace hf := x_ip c142 hf
                          refine lv_iload C.x C.b dX11_act_150 (lv_at hl 0 rfl) ?_
                          refine W.widen (k := 12) (n := 169) (Nat.le_of_ble_eq_true rfl) (Nat.le_of_ble_eq_true rfl) ?_
                          rw [x_e1 hf, x_e2 hf]
                          exact x_iret C hr hW dX11_act_152
                        · replace hf := x_in c142 hf
                          refine lv_bipush (v := (-15)) C.x C.b dX11_act_145 (by decide) ?_
                          refine lv_goto (tgt := 152) C.x C.b dX11_act_147 rfl ?_
                          refine W.widen (k := 12) (n := 169) (Nat.le_of_ble_eq_true rfl) (Nat.le_of_ble_eq_true rfl) ?_
                          rw [x_e1 hf, x_e2 hf]
                          exact x_iret C hr hW dX11_act_152
                      · replace hf := x_in hk8 hf
                        by_cases hk12 : M64_18.k a121_69 = 12
                        · replace hf := x_ip hk12 hf
                          replace hf := x_b1 hf; obtain ⟨_, hk121_90, hf⟩ := hf
                          replace hf := x_b2 hf; obtain ⟨x121_91, M121_92, hx121_91, hf⟩ := hf
                          refine x_callU (owner := "NylonLadder$Plain") (x := ⟨"NylonLadder$Plain", "holds", "(I)I"⟩) (As := [.int p3]) (a := a121_69) (rest := []) C hW hl (qX4_holds_k12 l E hx121_91) (x_gk hk121_90) (by decide) (by decide) rfl gu_X11_343_12 rfl hdo_X11_343 rfl rfl (Nat.le_of_ble_eq_true rfl) dX11_act_121 ⟨Nat.le_of_ble_eq_true rfl, Nat.le_of_ble_eq_true rfl⟩ ⟨Nat.le_of_ble_eq_true rfl, Nat.le_of_ble_eq_true rfl⟩ (fun H locs hW => ?_)
                          refine lv_istore (lv' := [(6, .int _), (5, .ref (E.b + _)), (4, .ref (E.b + _)), (0, .ref (E.b + _)), (1, .int _), (2, .int _), (3, .int _)]) C.x C.b dX11_act_124 hl (by decide) rfl (fun ls hl => ?_)
                          refine lv_goto (tgt := 137) C.x C.b dX11_act_126 rfl ?_
                          refine lv_aload C.x C.b dX11_act_137 (lv_at hl 1 rfl) ?_
                          replace hf := x_b1 hf; obtain ⟨x139_93, hx139_93, hf⟩ := hf
                          refine x_geti C hW fg_X11_349_12 hx139_93 dX11_act_139 ?_
                          refine lv_if_eq (tgt := 150) C.x C.b dX11_act_142 rfl (fun c142 => ?_) (fun c142 => ?_)
                          · replace hf := x_ip c142 hf
                            refine lv_iload C.x C.b dX11_act_150 (lv_at hl 0 rfl) ?_
                            refine W.widen (k := 12) (n := 169) (Nat.le_of_ble_eq_true rfl) (Nat.le_of_ble_eq_true rfl) ?_
                            rw [x_e1 hf, x_e2 hf]
                            exact x_iret C hr hW dX11_act_152
                          · replace hf := x_in c142 hf
                            refine lv_bipush (v := (-15)) C.x C.b dX11_act_145 (by decide) ?_
                            refine lv_goto (tgt := 152) C.x C.b dX11_act_147 rfl ?_
                            refine W.widen (k := 12) (n := 169) (Nat.le_of_ble_eq_true rfl) (Nat.le_of_ble_eq_true rfl) ?_
                            rw [x_e1 hf, x_e2 hf]
                            exact x_iret C hr hW dX11_act_152
                        · replace hf := x_in hk12 hf
                          cases hf
            · replace hf := x_in s70_2 hf
              have s70_0_ := lv_neT (a := 0) s70_0 rfl
              have s70_1_ := lv_neT (a := 1) s70_1 rfl
              have s70_2_ := lv_neT (a := 2) s70_2 rfl
              refine lv_tableOut (tgt := 129) C.x C.b dX11_act_70 (by omega) rfl ?_
              refine x_aload C dX11_act_129 (lv_at hl 0 rfl) ?_
              refine lv_iload_n C.x C.b dX11_act_131 rfl (lv_at hl 5 rfl) ?_
              replace hf := x_b1 hf; obtain ⟨a132_94, rfl, hf⟩ := hf
              by_cases hk4 : M64_18.k a132_94 = 4
              · replace hf := x_ip hk4 hf
                replace hf := x_b1 hf; obtain ⟨_, hk132_95, hf⟩ := hf
                replace hf := x_b2 hf; obtain ⟨x132_96, M132_97, hx132_96, hf⟩ := hf
                refine x_callO (owner := "NylonLadder$Plain") (x := ⟨"NylonLadder$Plain", "tells", "(I)I"⟩) (As := [.int p3]) (a := a132_94) (rest := []) C hW hl (qX9_tells_k4 l E hx132_96) (x_gk hk132_95) (by decide) (by decide) rfl gu_X11_346_4 T_5_225 hdo_X11_346 rfl rfl (Nat.le_of_ble_eq_true rfl) dX11_act_132 ⟨Nat.le_of_ble_eq_true rfl, Nat.le_of_ble_eq_true rfl⟩ ⟨Nat.le_of_ble_eq_true rfl, Nat.le_of_ble_eq_true rfl⟩ (fun H locs hW => ?_)
                refine lv_istore (lv' := [(6, .int _), (5, .ref (E.b + _)), (4, .ref (E.b + _)), (0, .ref (E.b + _)), (1, .int _), (2, .int _), (3, .int _)]) C.x C.b dX11_act_135 hl (by decide) rfl (fun ls hl => ?_)
                refine lv_aload C.x C.b dX11_act_137 (lv_at hl 1 rfl) ?_
                replace hf := x_b1 hf; obtain ⟨x139_98, hx139_98, hf⟩ := hf
                refine x_geti C hW fg_X11_349_4 hx139_98 dX11_act_139 ?_
                refine lv_if_eq (tgt := 150) C.x C.b dX11_act_142 rfl (fun c142 => ?_) (fun c142 => ?_)
                · replace hf := x_ip c142 hf
                  refine lv_iload C.x C.b dX11_act_150 (lv_at hl 0 rfl) ?_
                  rw [x_e1 hf, x_e2 hf]
                  exact x_iret C hr hW dX11_act_152
                · replace hf := x_in c142 hf
                  refine lv_bipush (v := (-15)) C.x C.b dX11_act_145 (by decide) ?_
                  refine lv_goto (tgt := 152) C.x C.b dX11_act_147 rfl ?_
                  rw [x_e1 hf, x_e2 hf]
                  exact x_iret C hr hW dX11_act_152
              · replace hf := x_in hk4 hf
                by_cases hk5 : M64_18.k a132_94 = 5
                · replace hf := x_ip hk5 hf
                  replace hf := x_b1 hf; obtain ⟨_, hk132_99, hf⟩ := hf
                  replace hf := x_b2 hf; obtain ⟨x132_100, M132_101, hx132_100, hf⟩ := hf
                  refine x_callU (owner := "NylonLadder$Plain") (x := ⟨"NylonLadder$Plain", "tells", "(I)I"⟩) (As := [.int p3]) (a := a132_94) (rest := []) C hW hl (qX4_tells_k5 l E hx132_100) (x_gk hk132_99) (by decide) (by decide) rfl gu_X11_346_5 rfl hdo_X11_346 rfl rfl (Nat.le_of_ble_eq_true rfl) dX11_act_132 ⟨Nat.le_of_ble_eq_true rfl, Nat.le_of_ble_eq_true rfl⟩ ⟨Nat.le_of_ble_eq_true rfl, Nat.le_of_ble_eq_true rfl⟩ (fun H locs hW => ?_)
                  refine lv_istore (lv' := [(6, .int _), (5, .ref (E.b + _)), (4, .ref (E.b + _)), (0, .ref (E.b + _)), (1, .int _), (2, .int _), (3, .int _)]) C.x C.b dX11_act_135 hl (by decide) rfl (fun ls hl => ?_)
                  refine lv_aload C.x C.b dX11_act_137 (lv_at hl 1 rfl) ?_
                  replace hf := x_b1 hf; obtain ⟨x139_102, hx139_102, hf⟩ := hf
                  refine x_geti C hW fg_X11_349_5 hx139_102 dX11_act_139 ?_
                  refine lv_if_eq (tgt := 150) C.x C.b dX11_act_142 rfl (fun c142 => ?_) (fun c142 => ?_)
                  · replace hf := x_ip c142 hf
                    refine lv_iload C.x C.b dX11_act_150 (lv_at hl 0 rfl) ?_
                    refine W.widen (k := 12) (n := 169) (Nat.le_of_ble_eq_true rfl) (Nat.le_of_ble_eq_true rfl) ?_
                    rw [x_e1 hf, x_e2 hf]
                    exact x_iret C hr hW dX11_act_152
                  · replace hf := x_in c142 hf
                    refine lv_bipush (v := (-15)) C.x C.b dX11_act_145 (by decide) ?_
                    refine lv_goto (tgt := 152) C.x C.b dX11_act_147 rfl ?_
                    refine W.widen (k := 12) (n := 169) (Nat.le_of_ble_eq_true rfl) (Nat.le_of_ble_eq_true rfl) ?_
                    rw [x_e1 hf, x_e2 hf]
                    exact x_iret C hr hW dX11_act_152
                · replace hf := x_in hk5 hf
                  by_cases hk6 : M64_18.k a132_94 = 6
                  · replace hf := x_ip hk6 hf
                    replace hf := x_b1 hf; obtain ⟨_, hk132_103, hf⟩ := hf
                    replace hf := x_b2 hf; obtain ⟨x132_104, M132_105, hx132_104, hf⟩ := hf
                    refine x_callO (owner := "NylonLadder$Plain") (x := ⟨"NylonLadder$Plain", "tells", "(I)I"⟩) (As := [.int p3]) (a := a132_94) (rest := []) C hW hl (qX3_tells_k6 l E hx132_104) (x_gk hk132_103) (by decide) (by decide) rfl gu_X11_346_6 T_5_225 hdo_X11_346 rfl rfl (Nat.le_of_ble_eq_true rfl) dX11_act_132 ⟨Nat.le_of_ble_eq_true rfl, Nat.le_of_ble_eq_true rfl⟩ ⟨Nat.le_of_ble_eq_true rfl, Nat.le_of_ble_eq_true rfl⟩ (fun H locs hW => ?_)
                    refine lv_istore (lv' := [(6, .int _), (5, .ref (E.b + _)), (4, .ref (E.b + _)), (0, .ref (E.b + _)), (1, .int _), (2, .int _), (3, .int _)]) C.x C.b dX11_act_135 hl (by decide) rfl (fun ls hl => ?_)
                    refine lv_aload C.x C.b dX11_act_137 (lv_at hl 1 rfl) ?_
                    replace hf := x_b1 hf; obtain ⟨x139_106, hx139_106, hf⟩ := hf
                    refine x_geti C hW fg_X11_349_6 hx139_106 dX11_act_139 ?_
                    refine lv_if_eq (tgt := 150) C.x C.b dX11_act_142 rfl (fun c142 => ?_) (fun c142 => ?_)
                    · replace hf := x_ip c142 hf
                      refine lv_iload C.x C.b dX11_act_150 (lv_at hl 0 rfl) ?_
                      refine W.widen (k := 12) (n := 169) (Nat.le_of_ble_eq_true rfl) (Nat.le_of_ble_eq_true rfl) ?_
                      rw [x_e1 hf, x_e2 hf]
                      exact x_iret C hr hW dX11_act_152
                    · replace hf := x_in c142 hf
                      refine lv_bipush (v := (-15)) C.x C.b dX11_act_145 (by decide) ?_
                      refine lv_goto (tgt := 152) C.x C.b dX11_act_147 rfl ?_
                      refine W.widen (k := 12) (n := 169) (Nat.le_of_ble_eq_true rfl) (Nat.le_of_ble_eq_true rfl) ?_
                      rw [x_e1 hf, x_e2 hf]
                      exact x_iret C hr hW dX11_act_152
                  · replace hf := x_in hk6 hf
                    by_cases hk7 : M64_18.k a132_94 = 7
                    · replace hf := x_ip hk7 hf
                      replace hf := x_b1 hf; obtain ⟨_, hk132_107, hf⟩ := hf
                      replace hf := x_b2 hf; obtain ⟨x132_108, M132_109, hx132_108, hf⟩ := hf
                      refine x_callV (As := [.int p3]) (a := a132_94) (rest := []) C hW hl (qX4_tells_k7 l E hx132_108) (x_gk hk132_107) (by decide) (by decide) rfl gu_X11_346_7 ⟨rfl, hd_X4_tells⟩ rfl rfl (Nat.le_of_ble_eq_true rfl) dX11_act_132 ⟨Nat.le_of_ble_eq_true rfl, Nat.le_of_ble_eq_true rfl⟩ ⟨Nat.le_of_ble_eq_true rfl, Nat.le_of_ble_eq_true rfl⟩ (fun H locs hW => ?_)
                      refine lv_istore (lv' := [(6, .int _), (5, .ref (E.b + _)), (4, .ref (E.b + _)), (0, .ref (E.b + _)), (1, .int _), (2, .int _), (3, .int _)]) C.x C.b dX11_act_135 hl (by decide) rfl (fun ls hl => ?_)
                      refine lv_aload C.x C.b dX11_act_137 (lv_at hl 1 rfl) ?_
                      replace hf := x_b1 hf; obtain ⟨x139_110, hx139_110, hf⟩ := hf
                      refine x_geti C hW fg_X11_349_7 hx139_110 dX11_act_139 ?_
                      refine lv_if_eq (tgt := 150) C.x C.b dX11_act_142 rfl (fun c142 => ?_) (fun c142 => ?_)
                      · replace hf := x_ip c142 hf
                        refine lv_iload C.x C.b dX11_act_150 (lv_at hl 0 rfl) ?_
                        refine W.widen (k := 12) (n := 169) (Nat.le_of_ble_eq_true rfl) (Nat.le_of_ble_eq_true rfl) ?_
                        rw [x_e1 hf, x_e2 hf]
                        exact x_iret C hr hW dX11_act_152
                      · replace hf := x_in c142 hf
                        refine lv_bipush (v := (-15)) C.x C.b dX11_act_145 (by decide) ?_
                        refine lv_goto (tgt := 152) C.x C.b dX11_act_147 rfl ?_
                        refine W.widen (k := 12) (n := 169) (Nat.le_of_ble_eq_true rfl) (Nat.le_of_ble_eq_true rfl) ?_
                        rw [x_e1 hf, x_e2 hf]
                        exact x_iret C hr hW dX11_act_152
                    · replace hf := x_in hk7 hf
                      by_cases hk8 : M64_18.k a132_94 = 8
                      · replace hf := x_ip hk8 hf
                        replace hf := x_b1 hf; obtain ⟨_, hk132_111, hf⟩ := hf
                        replace hf := x_b2 hf; obtain ⟨x132_112, M132_113, hx132_112, hf⟩ := hf
                        refine x_callU (owner := "NylonLadder$Plain") (x := ⟨"NylonLadder$Plain", "tells", "(I)I"⟩) (As := [.int p3]) (a := a132_94) (rest := []) C hW hl (qX4_tells_k8 l E hx132_112) (x_gk hk132_111) (by decide) (by decide) rfl gu_X11_346_8 rfl hdo_X11_346 rfl rfl (Nat.le_of_ble_eq_true rfl) dX11_act_132 ⟨Nat.le_of_ble_eq_true rfl, Nat.le_of_ble_eq_true rfl⟩ ⟨Nat.le_of_ble_eq_true rfl, Nat.le_of_ble_eq_true rfl⟩ (fun H locs hW => ?_)
                        refine lv_istore (lv' := [(6, .int _), (5, .ref (E.b + _)), (4, .ref (E.b + _)), (0, .ref (E.b + _)), (1, .int _), (2, .int _), (3, .int _)]) C.x C.b dX11_act_135 hl (by decide) rfl (fun ls hl => ?_)
                        refine lv_aload C.x C.b dX11_act_137 (lv_at hl 1 rfl) ?_
                        replace hf := x_b1 hf; obtain ⟨x139_114, hx139_114, hf⟩ := hf
                        refine x_geti C hW fg_X11_349_8 hx139_114 dX11_act_139 ?_
                        refine lv_if_eq (tgt := 150) C.x C.b dX11_act_142 rfl (fun c142 => ?_) (fun c142 => ?_)
                        · replace hf := x_ip c142 hf
                          refine lv_iload C.x C.b dX11_act_150 (lv_at hl 0 rfl) ?_
                          refine W.widen (k := 12) (n := 169) (Nat.le_of_ble_eq_true rfl) (Nat.le_of_ble_eq_true rfl) ?_
                          rw [x_e1 hf, x_e2 hf]
                          exact x_iret C hr hW dX11_act_152
                        · replace hf := x_in c142 hf
                          refine lv_bipush (v := (-15)) C.x C.b dX11_act_145 (by decide) ?_
                          refine lv_goto (tgt := 152) C.x C.b dX11_act_147 rfl ?_
                          refine W.widen (k := 12) (n := 169) (Nat.le_of_ble_eq_true rfl) (Nat.le_of_ble_eq_true rfl) ?_
                          rw [x_e1 hf, x_e2 hf]
                          exact x_iret C hr hW dX11_act_152
                      · replace hf := x_in hk8 hf
                        by_cases hk12 : M64_18.k a132_94 = 12
                        · replace hf := x_ip hk12 hf
                          replace hf := x_b1 hf; obtain ⟨_, hk132_115, hf⟩ := hf
                          replace hf := x_b2 hf; obtain ⟨x132_116, M132_117, hx132_116, hf⟩ := hf
                          refine x_callO (owner := "NylonLadder$Plain") (x := ⟨"NylonLadder$Plain", "tells", "(I)I"⟩) (As := [.int p3]) (a := a132_94) (rest := []) C hW hl (qX9_tells_k12 l E hx132_116) (x_gk hk132_115) (by decide) (by decide) rfl gu_X11_346_12 T_5_225 hdo_X11_346 rfl rfl (Nat.le_of_ble_eq_true rfl) dX11_act_132 ⟨Nat.le_of_ble_eq_true rfl, Nat.le_of_ble_eq_true rfl⟩ ⟨Nat.le_of_ble_eq_true rfl, Nat.le_of_ble_eq_true rfl⟩ (fun H locs hW => ?_)
                          refine lv_istore (lv' := [(6, .int _), (5, .ref (E.b + _)), (4, .ref (E.b + _)), (0, .ref (E.b + _)), (1, .int _), (2, .int _), (3, .int _)]) C.x C.b dX11_act_135 hl (by decide) rfl (fun ls hl => ?_)
                          refine lv_aload C.x C.b dX11_act_137 (lv_at hl 1 rfl) ?_
                          replace hf := x_b1 hf; obtain ⟨x139_118, hx139_118, hf⟩ := hf
                          refine x_geti C hW fg_X11_349_12 hx139_118 dX11_act_139 ?_
                          refine lv_if_eq (tgt := 150) C.x C.b dX11_act_142 rfl (fun c142 => ?_) (fun c142 => ?_)
                          · replace hf := x_ip c142 hf
                            refine lv_iload C.x C.b dX11_act_150 (lv_at hl 0 rfl) ?_
                            refine W.widen (k := 12) (n := 169) (Nat.le_of_ble_eq_true rfl) (Nat.le_of_ble_eq_true rfl) ?_
                            rw [x_e1 hf, x_e2 hf]
                            exact x_iret C hr hW dX11_act_152
                          · replace hf := x_in c142 hf
                            refine lv_bipush (v := (-15)) C.x C.b dX11_act_145 (by decide) ?_
                            refine lv_goto (tgt := 152) C.x C.b dX11_act_147 rfl ?_
                            refine W.widen (k := 12) (n := 169) (Nat.le_of_ble_eq_true rfl) (Nat.le_of_ble_eq_true rfl) ?_
                            rw [x_e1 hf, x_e2 hf]
                            exact x_iret C hr hW dX11_act_152
                        · replace hf := x_in hk12 hf
                          cases hf
    · replace hf := x_ip c20 hf
      refine lv_iconst (v := 0) C.x C.b dX11_act_23 (by decide) ?_
      refine W.widen (k := 12) (n := 169) (Nat.le_of_ble_eq_true rfl) (Nat.le_of_ble_eq_true rfl) ?_
      rw [x_e1 hf, x_e2 hf]
      exact x_iret C hr hW dX11_act_24

theorem dJx4a65c_size_8abf5_0 : decode cJx4a65c_size_8abf5 0 = .ok (.aload_n 0, 1) := by decide +kernel
theorem dJx4a65c_size_8abf5_1 : decode cJx4a65c_size_8abf5 1 = .ok (.getfield 48, 3) := by decide +kernel
theorem dJx4a65c_size_8abf5_4 : decode cJx4a65c_size_8abf5 4 = .ok (.ireturn, 1) := by decide +kernel
def fJx4a65c_size_8abf5 (M : Mm) (o : Nat) : Option Int32 :=
  B1 (rdI M o 2 2) fun x1_1 =>
  some x1_1
set_option maxRecDepth 100000 in
set_option maxHeartbeats 4000000 in
theorem qJx4a65c_size_8abf5 (l : Launch) (E : Ev) {M : Mm} {o : Nat} {rz : Int32} (hf : fJx4a65c_size_8abf5 M o = some rz) : Ct l E yJx4a65c_size_8abf5 cJx4a65c_size_8abf5 1 (some .int) 0 0 0 0 [.ref (E.b + o)] M (some (.int rz)) M := by
  refine ct_of (by decide +kernel) (Nat.le_of_ble_eq_true rfl) fun p e s m args below meth c C hr hin hW ls hl => ?_
  have hl : lv_has ls 1 [(0, .ref (E.b + o))] := hl
  unfold fJx4a65c_size_8abf5 at hf
  refine lv_aload_n C.x C.b dJx4a65c_size_8abf5_0 rfl (lv_at hl 0 rfl) ?_
  replace hf := x_b1 hf; obtain ⟨x1_1, hx1_1, hf⟩ := hf
  refine x_lgeti C hW hx1_1 (by decide) T_1_219 (Or.inl rfl) dJx4a65c_size_8abf5_1 ?_
  rw [x_e0 hf]
  exact x_iret C hr hW dJx4a65c_size_8abf5_4

theorem dX11_bodiesKept_0 : decode cX11_bodiesKept 0 = .ok (.bipush 30, 2) := by decide +kernel
theorem dX11_bodiesKept_2 : decode cX11_bodiesKept 2 = .ok (.aload_n 0, 1) := by decide +kernel
theorem dX11_bodiesKept_3 : decode cX11_bodiesKept 3 = .ok (.getfield 65, 3) := by decide +kernel
theorem dX11_bodiesKept_6 : decode cX11_bodiesKept 6 = .ok (.invokevirtual 373, 3) := by decide +kernel
theorem dX11_bodiesKept_9 : decode cX11_bodiesKept 9 = .ok (.invokestatic 304, 3) := by decide +kernel
theorem dX11_bodiesKept_12 : decode cX11_bodiesKept 12 = .ok (.ireturn, 1) := by decide +kernel
theorem hd_Jx4a65c_size_8abf5 : yJx4a65c_size_8abf5.cls ≠ "java/lang/invoke/MethodHandle" ∧ yJx4a65c_size_8abf5.cls ≠ "java/lang/invoke/VarHandle" ∧ (parseMethodDescriptor yJx4a65c_size_8abf5.desc).map (fun d => d.parameters.length) = some 0 := by decide +kernel
theorem gv_X11_373 : GoodIn gT (wsV "NylonLadder" 373 "java/util/ArrayList" yJx4a65c_size_8abf5 (Cond.code yJx4a65c_size_8abf5 cJx4a65c_size_8abf5 1 (some .int) :: gT)) := good_V T_5_235 T_5_236 T_5_237 T_1_9 T_5_238
def fX11_bodiesKept (M : Mm) (o : Nat) : Option Int32 :=
  B1 (rdN M o 14 11) fun a3_1 =>
  B1 (gk M a3_1 2) fun _ =>
  B1 (fJx4a65c_size_8abf5 M a3_1) fun x6_3 =>
  some (mnI 30 x6_3)
set_option maxRecDepth 100000 in
set_option maxHeartbeats 4000000 in
theorem qX11_bodiesKept (l : Launch) (E : Ev) {M : Mm} {o : Nat} {rz : Int32} (hf : fX11_bodiesKept M o = some rz) : Ct l E yX11_bodiesKept cX11_bodiesKept 1 (some .int) 1 20 0 0 [.ref (E.b + o)] M (some (.int rz)) M := by
  refine ct_of (by decide +kernel) (Nat.le_of_ble_eq_true rfl) fun p e s m args below meth c C hr hin hW ls hl => ?_
  have hl : lv_has ls 1 [(0, .ref (E.b + o))] := hl
  unfold fX11_bodiesKept at hf
  refine lv_bipush (v := 30) C.x C.b dX11_bodiesKept_0 (by decide) ?_
  refine lv_aload_n C.x C.b dX11_bodiesKept_2 rfl (lv_at hl 0 rfl) ?_
  replace hf := x_b1 hf; obtain ⟨a3_1, ha3_1, hf⟩ := hf
  refine x_getn C hW fg_X11_65_14 ha3_1 dX11_bodiesKept_3 ?_
  replace hf := x_b1 hf; obtain ⟨_, hk6_2, hf⟩ := hf
  replace hf := x_b1 hf; obtain ⟨x6_3, hx6_3, hf⟩ := hf
  refine x_callV (As := []) (a := a3_1) (rest := [.int 30]) C hW hl (qJx4a65c_size_8abf5 l E hx6_3) (x_gk hk6_2) (by decide) (by decide) rfl gv_X11_373 ⟨rfl, hd_Jx4a65c_size_8abf5⟩ rfl rfl (Nat.le_of_ble_eq_true rfl) dX11_bodiesKept_6 ⟨Nat.le_of_ble_eq_true rfl, Nat.le_of_ble_eq_true rfl⟩ ⟨Nat.le_of_ble_eq_true rfl, Nat.le_of_ble_eq_true rfl⟩ (fun H locs hW => ?_)
  refine x_mmin C hl T_4_135 T_3_160 T_1_15 T_3_161 (Nat.le_of_ble_eq_true rfl) (Nat.le_of_ble_eq_true rfl) ⟨Nat.le_of_ble_eq_true rfl, Nat.le_of_ble_eq_true rfl⟩ dX11_bodiesKept_9 ?_
  rw [x_e0 hf]
  exact x_iret C hr hW dX11_bodiesKept_12

theorem dJ15_checkIndex_7cf53_0 : decode cJ15_checkIndex_7cf53 0 = .ok (.iload_n 0, 1) := by decide +kernel
theorem dJ15_checkIndex_7cf53_1 : decode cJ15_checkIndex_7cf53 1 = .ok (.iload_n 1, 1) := by decide +kernel
theorem dJ15_checkIndex_7cf53_2 : decode cJ15_checkIndex_7cf53 2 = .ok (.aconst_null, 1) := by decide +kernel
theorem dJ15_checkIndex_7cf53_3 : decode cJ15_checkIndex_7cf53 3 = .ok (.invokestatic 105, 3) := by decide +kernel
theorem dJ15_checkIndex_7cf53_6 : decode cJ15_checkIndex_7cf53 6 = .ok (.ireturn, 1) := by decide +kernel
theorem gs_J15_105 : GoodIn gT (va_wsS "java/util/Objects" 105 yJ3_checkIndex_8e157 (Cond.code yJ3_checkIndex_8e157 cJ3_checkIndex_8e157 3 (some .int) :: gT)) := good_S T_6_6 T_2_102 T_1_13 T_2_103
def fJ15_checkIndex_7cf53 (M : Mm) (p1 : Int32) (p2 : Int32) : Option Int32 :=
  B1 (fJ3_checkIndex_8e157 M p1 p2) fun x3_1 =>
  some x3_1
set_option maxRecDepth 100000 in
set_option maxHeartbeats 4000000 in
theorem qJ15_checkIndex_7cf53 (l : Launch) (E : Ev) {M : Mm} {p1 : Int32} {p2 : Int32} {rz : Int32} (hf : fJ15_checkIndex_7cf53 M p1 p2 = some rz) : Ct l E yJ15_checkIndex_7cf53 cJ15_checkIndex_7cf53 2 (some .int) 1 22 0 0 [.int p1, .int p2] M (some (.int rz)) M := by
  refine ct_of (by decide +kernel) (Nat.le_of_ble_eq_true rfl) fun p e s m args below meth c C hr hin hW ls hl => ?_
  have hl : lv_has ls 2 [(0, .int p1), (1, .int p2)] := hl
  unfold fJ15_checkIndex_7cf53 at hf
  refine lv_iload_n C.x C.b dJ15_checkIndex_7cf53_0 rfl (lv_at hl 0 rfl) ?_
  refine lv_iload_n C.x C.b dJ15_checkIndex_7cf53_1 rfl (lv_at hl 1 rfl) ?_
  refine lv_null C.x C.b dJ15_checkIndex_7cf53_2 ?_
  replace hf := x_b1 hf; obtain ⟨x3_1, hx3_1, hf⟩ := hf
  refine x_callS (As := [.int p1, .int p2, va_rf none]) (rest := []) C hW hl (qJ3_checkIndex_8e157 l E hx3_1) gs_J15_105 hd_J3_checkIndex_8e157 rfl rfl (Nat.le_of_ble_eq_true rfl) dJ15_checkIndex_7cf53_3 ⟨Nat.le_of_ble_eq_true rfl, Nat.le_of_ble_eq_true rfl⟩ ⟨Nat.le_of_ble_eq_true rfl, Nat.le_of_ble_eq_true rfl⟩ (fun H locs hW => ?_)
  rw [x_e0 hf]
  exact x_iret C hr hW dJ15_checkIndex_7cf53_6

theorem dJx4a65c_elementData_915e3_0 : decode cJx4a65c_elementData_915e3 0 = .ok (.aload_n 0, 1) := by decide +kernel
theorem dJx4a65c_elementData_915e3_1 : decode cJx4a65c_elementData_915e3 1 = .ok (.getfield 9, 3) := by decide +kernel
theorem dJx4a65c_elementData_915e3_4 : decode cJx4a65c_elementData_915e3 4 = .ok (.iload_n 1, 1) := by decide +kernel
theorem dJx4a65c_elementData_915e3_5 : decode cJx4a65c_elementData_915e3 5 = .ok (.aaload, 1) := by decide +kernel
theorem dJx4a65c_elementData_915e3_6 : decode cJx4a65c_elementData_915e3 6 = .ok (.areturn, 1) := by decide +kernel
def fJx4a65c_elementData_915e3 (M : Mm) (o : Nat) (p1 : Int32) : Option Int32 :=
  B1 (rdN M o 2 1) fun d1_1 =>
  B1 (dlb M d1_1 p1) fun b5_2 =>
  some b5_2
set_option maxRecDepth 100000 in
set_option maxHeartbeats 4000000 in
theorem qJx4a65c_elementData_915e3 (l : Launch) (E : Ev) {M : Mm} {o : Nat} {p1 : Int32} {rz : Int32} (hf : fJx4a65c_elementData_915e3 M o p1 = some rz) : Ct l E yJx4a65c_elementData_915e3 cJx4a65c_elementData_915e3 2 (some (.object "java/lang/Object")) 0 0 0 0 [.ref (E.b + o), .int p1] M (some (.ref (bxA E rz))) M := by
  refine ct_of (by decide +kernel) (Nat.le_of_ble_eq_true rfl) fun p e s m args below meth c C hr hin hW ls hl => ?_
  have hl : lv_has ls 2 [(0, .ref (E.b + o)), (1, .int p1)] := hl
  unfold fJx4a65c_elementData_915e3 at hf
  refine lv_aload_n C.x C.b dJx4a65c_elementData_915e3_0 rfl (lv_at hl 0 rfl) ?_
  replace hf := x_b1 hf; obtain ⟨d1_1, hd1_1, hf⟩ := hf
  refine x_lgetd C hW hd1_1 T_1_218 dJx4a65c_elementData_915e3_1 ?_
  refine lv_iload_n C.x C.b dJx4a65c_elementData_915e3_4 rfl (lv_at hl 1 rfl) ?_
  replace hf := x_b1 hf; obtain ⟨b5_2, hb5_2, hf⟩ := hf
  refine x_dlb C hW hb5_2 dJx4a65c_elementData_915e3_5 ?_
  rw [x_e0 hf]
  exact x_sret C hr (Or.inl ⟨_, rfl⟩) hW dJx4a65c_elementData_915e3_6

theorem dJx4a65c_get_915e3_0 : decode cJx4a65c_get_915e3 0 = .ok (.iload_n 1, 1) := by decide +kernel
theorem dJx4a65c_get_915e3_1 : decode cJx4a65c_get_915e3 1 = .ok (.aload_n 0, 1) := by decide +kernel
theorem dJx4a65c_get_915e3_2 : decode cJx4a65c_get_915e3 2 = .ok (.getfield 48, 3) := by decide +kernel
theorem dJx4a65c_get_915e3_5 : decode cJx4a65c_get_915e3 5 = .ok (.invokestatic 118, 3) := by decide +kernel
theorem dJx4a65c_get_915e3_8 : decode cJx4a65c_get_915e3 8 = .ok (.pop, 1) := by decide +kernel
theorem dJx4a65c_get_915e3_9 : decode cJx4a65c_get_915e3 9 = .ok (.aload_n 0, 1) := by decide +kernel
theorem dJx4a65c_get_915e3_10 : decode cJx4a65c_get_915e3 10 = .ok (.iload_n 1, 1) := by decide +kernel
theorem dJx4a65c_get_915e3_11 : decode cJx4a65c_get_915e3 11 = .ok (.invokevirtual 123, 3) := by decide +kernel
theorem dJx4a65c_get_915e3_14 : decode cJx4a65c_get_915e3 14 = .ok (.areturn, 1) := by decide +kernel
theorem hd_J15_checkIndex_7cf53 : yJ15_checkIndex_7cf53.cls ≠ "java/lang/invoke/MethodHandle" ∧ yJ15_checkIndex_7cf53.cls ≠ "java/lang/invoke/VarHandle" ∧ (parseMethodDescriptor yJ15_checkIndex_7cf53.desc).map (fun d => d.parameters.length) = some 2 := by decide +kernel
theorem gs_Jx4a65c_118 : GoodIn gT (va_wsS "java/util/ArrayList" 118 yJ15_checkIndex_7cf53 (Cond.code yJ15_checkIndex_7cf53 cJ15_checkIndex_7cf53 2 (some .int) :: gT)) := good_S T_6_3 T_6_4 T_1_28 T_6_5
theorem hd_Jx4a65c_elementData_915e3 : yJx4a65c_elementData_915e3.cls ≠ "java/lang/invoke/MethodHandle" ∧ yJx4a65c_elementData_915e3.cls ≠ "java/lang/invoke/VarHandle" ∧ (parseMethodDescriptor yJx4a65c_elementData_915e3.desc).map (fun d => d.parameters.length) = some 1 := by decide +kernel
theorem gv_Jx4a65c_123 : GoodIn gT (wsV "java/util/ArrayList" 123 "java/util/ArrayList" yJx4a65c_elementData_915e3 (Cond.code yJx4a65c_elementData_915e3 cJx4a65c_elementData_915e3 2 (some (.object "java/lang/Object")) :: gT)) := good_V T_6_7 T_6_8 T_6_9 T_1_9 T_6_10
def fJx4a65c_get_915e3 (M : Mm) (o : Nat) (p1 : Int32) : Option Int32 :=
  B1 (rdI M o 2 2) fun x2_1 =>
  B1 (fJ15_checkIndex_7cf53 M p1 x2_1) fun x5_2 =>
  B1 (gk M o 2) fun _ =>
  B1 (fJx4a65c_elementData_915e3 M o p1) fun x11_4 =>
  some x11_4
set_option maxRecDepth 100000 in
set_option maxHeartbeats 4000000 in
theorem qJx4a65c_get_915e3 (l : Launch) (E : Ev) {M : Mm} {o : Nat} {p1 : Int32} {rz : Int32} (hf : fJx4a65c_get_915e3 M o p1 = some rz) : Ct l E yJx4a65c_get_915e3 cJx4a65c_get_915e3 2 (some (.object "java/lang/Object")) 2 43 0 0 [.ref (E.b + o), .int p1] M (some (.ref (bxA E rz))) M := by
  refine ct_of (by decide +kernel) (Nat.le_of_ble_eq_true rfl) fun p e s m args below meth c C hr hin hW ls hl => ?_
  have hl : lv_has ls 2 [(0, .ref (E.b + o)), (1, .int p1)] := hl
  unfold fJx4a65c_get_915e3 at hf
  refine lv_iload_n C.x C.b dJx4a65c_get_915e3_0 rfl (lv_at hl 1 rfl) ?_
  refine lv_aload_n C.x C.b dJx4a65c_get_915e3_1 rfl (lv_at hl 0 rfl) ?_
  replace hf := x_b1 hf; obtain ⟨x2_1, hx2_1, hf⟩ := hf
  refine x_lgeti C hW hx2_1 (by decide) T_1_219 (Or.inl rfl) dJx4a65c_get_915e3_2 ?_
  replace hf := x_b1 hf; obtain ⟨x5_2, hx5_2, hf⟩ := hf
  refine x_callS (As := [.int p1, .int x2_1]) (rest := []) C hW hl (qJ15_checkIndex_7cf53 l E hx5_2) gs_Jx4a65c_118 hd_J15_checkIndex_7cf53 rfl rfl (Nat.le_of_ble_eq_true rfl) dJx4a65c_get_915e3_5 ⟨Nat.le_of_ble_eq_true rfl, Nat.le_of_ble_eq_true rfl⟩ ⟨Nat.le_of_ble_eq_true rfl, Nat.le_of_ble_eq_true rfl⟩ (fun H locs hW => ?_)
  refine lv_pop C.x C.b dJx4a65c_get_915e3_8 rfl ?_
  refine lv_aload_n C.x C.b dJx4a65c_get_915e3_9 rfl (lv_at hl 0 rfl) ?_
  refine lv_iload_n C.x C.b dJx4a65c_get_915e3_10 rfl (lv_at hl 1 rfl) ?_
  replace hf := x_b1 hf; obtain ⟨_, hk11_3, hf⟩ := hf
  replace hf := x_b1 hf; obtain ⟨x11_4, hx11_4, hf⟩ := hf
  refine x_callV (As := [.int p1]) (a := o) (rest := []) C hW hl (qJx4a65c_elementData_915e3 l E hx11_4) (x_gk hk11_3) (by decide) (by decide) rfl gv_Jx4a65c_123 ⟨rfl, hd_Jx4a65c_elementData_915e3⟩ rfl rfl (Nat.le_of_ble_eq_true rfl) dJx4a65c_get_915e3_11 ⟨Nat.le_of_ble_eq_true rfl, Nat.le_of_ble_eq_true rfl⟩ ⟨Nat.le_of_ble_eq_true rfl, Nat.le_of_ble_eq_true rfl⟩ (fun H locs hW => ?_)
  rw [x_e0 hf]
  exact x_sret C hr (Or.inl ⟨_, rfl⟩) hW dJx4a65c_get_915e3_14

theorem dJ6_intValue_8abf5_0 : decode cJ6_intValue_8abf5 0 = .ok (.aload_n 0, 1) := by decide +kernel
theorem dJ6_intValue_8abf5_1 : decode cJ6_intValue_8abf5 1 = .ok (.getfield 205, 3) := by decide +kernel
theorem dJ6_intValue_8abf5_4 : decode cJ6_intValue_8abf5 4 = .ok (.ireturn, 1) := by decide +kernel
def fJ6_intValue_8abf5 (M : Mm) (b0 : Int32) : Option Int32 :=
  B1 (ibx b0) fun v1_1 =>
  some b0
set_option maxRecDepth 100000 in
set_option maxHeartbeats 4000000 in
theorem qJ6_intValue_8abf5 (l : Launch) (E : Ev) {M : Mm} {b0 : Int32} {rz : Int32} (hf : fJ6_intValue_8abf5 M b0 = some rz) : Ct l E yJ6_intValue_8abf5 cJ6_intValue_8abf5 1 (some .int) 0 0 0 0 [.ref (bxA E b0)] M (some (.int rz)) M := by
  refine ct_of (by decide +kernel) (Nat.le_of_ble_eq_true rfl) fun p e s m args below meth c C hr hin hW ls hl => ?_
  have hl : lv_has ls 1 [(0, .ref (bxA E b0))] := hl
  unfold fJ6_intValue_8abf5 at hf
  refine lv_aload_n C.x C.b dJ6_intValue_8abf5_0 rfl (lv_at hl 0 rfl) ?_
  replace hf := x_b1 hf; obtain ⟨v1_1, hv1_1, hf⟩ := hf
  refine x_bxv C hW (x_ibx hv1_1).1 T_5_81 dJ6_intValue_8abf5_1 ?_
  rw [x_e0 hf]
  exact x_iret C hr hW dJ6_intValue_8abf5_4

theorem dX11_trace_0 : decode cX11_trace 0 = .ok (.iload_n 1, 1) := by decide +kernel
theorem dX11_trace_1 : decode cX11_trace 1 = .ok (.iconst 0, 1) := by decide +kernel
theorem dX11_trace_2 : decode cX11_trace 2 = .ok (.aload_n 0, 1) := by decide +kernel
theorem dX11_trace_3 : decode cX11_trace 3 = .ok (.invokevirtual 352, 3) := by decide +kernel
theorem dX11_trace_6 : decode cX11_trace 6 = .ok (.iconst 1, 1) := by decide +kernel
theorem dX11_trace_7 : decode cX11_trace 7 = .ok (.isub, 1) := by decide +kernel
theorem dX11_trace_8 : decode cX11_trace 8 = .ok (.invokestatic 69, 3) := by decide +kernel
theorem dX11_trace_11 : decode cX11_trace 11 = .ok (.ifCond .eq 20, 3) := by decide +kernel
theorem dX11_trace_14 : decode cX11_trace 14 = .ok (.aload_n 0, 1) := by decide +kernel
theorem dX11_trace_15 : decode cX11_trace 15 = .ok (.getfield 65, 3) := by decide +kernel
theorem dX11_trace_18 : decode cX11_trace 18 = .ok (.iload_n 1, 1) := by decide +kernel
theorem dX11_trace_19 : decode cX11_trace 19 = .ok (.invokevirtual 355, 3) := by decide +kernel
theorem dX11_trace_22 : decode cX11_trace 22 = .ok (.checkcast 359, 3) := by decide +kernel
theorem dX11_trace_25 : decode cX11_trace 25 = .ok (.invokevirtual 361, 3) := by decide +kernel
theorem dX11_trace_28 : decode cX11_trace 28 = .ok (.goto 5, 3) := by decide +kernel
theorem dX11_trace_31 : decode cX11_trace 31 = .ok (.bipush (-3), 2) := by decide +kernel
theorem dX11_trace_33 : decode cX11_trace 33 = .ok (.ireturn, 1) := by decide +kernel
theorem hd_X11_bodiesKept : yX11_bodiesKept.cls ≠ "java/lang/invoke/MethodHandle" ∧ yX11_bodiesKept.cls ≠ "java/lang/invoke/VarHandle" ∧ (parseMethodDescriptor yX11_bodiesKept.desc).map (fun d => d.parameters.length) = some 0 := by decide +kernel
theorem gv_X11_352 : GoodIn gT (wsV "NylonLadder" 352 "NylonLadder" yX11_bodiesKept (Cond.code yX11_bodiesKept cX11_bodiesKept 1 (some .int) :: gT)) := good_V T_5_231 T_5_233 TS_31 T_1_1 T_5_234
theorem hd_Jx4a65c_get_915e3 : yJx4a65c_get_915e3.cls ≠ "java/lang/invoke/MethodHandle" ∧ yJx4a65c_get_915e3.cls ≠ "java/lang/invoke/VarHandle" ∧ (parseMethodDescriptor yJx4a65c_get_915e3.desc).map (fun d => d.parameters.length) = some 1 := by decide +kernel
theorem gv_X11_355 : GoodIn gT (wsV "NylonLadder" 355 "java/util/ArrayList" yJx4a65c_get_915e3 (Cond.code yJx4a65c_get_915e3 cJx4a65c_get_915e3 2 (some (.object "java/lang/Object")) :: gT)) := good_V T_5_239 T_6_0 T_6_1 T_1_9 T_6_2
theorem hd_J6_intValue_8abf5 : yJ6_intValue_8abf5.cls ≠ "java/lang/invoke/MethodHandle" ∧ yJ6_intValue_8abf5.cls ≠ "java/lang/invoke/VarHandle" ∧ (parseMethodDescriptor yJ6_intValue_8abf5.desc).map (fun d => d.parameters.length) = some 0 := by decide +kernel
theorem gv_X11_361 : GoodIn gT (wsV "NylonLadder" 361 "java/lang/Integer" yJ6_intValue_8abf5 (Cond.code yJ6_intValue_8abf5 cJ6_intValue_8abf5 1 (some .int) :: gT)) := good_V T_6_12 T_6_13 T_6_14 T_1_24 T_6_15
def fX11_trace (M : Mm) (o : Nat) (p1 : Int32) : Option Int32 :=
  B1 (gk M o 14) fun _ =>
  B1 (fX11_bodiesKept M o) fun x3_2 =>
  B1 (fX11_isWithin M p1 0 (x3_2 - 1)) fun x8_3 =>
  if x8_3 = 0 then
    some (-3)
  else
    B1 (rdN M o 14 11) fun a15_4 =>
    B1 (gk M a15_4 2) fun _ =>
    B1 (fJx4a65c_get_915e3 M a15_4 p1) fun x19_6 =>
    B1 (ibx x19_6) fun v22_7 =>
    B1 (ibx x19_6) fun _ =>
    B1 (fJ6_intValue_8abf5 M x19_6) fun x25_9 =>
    some x25_9
set_option maxRecDepth 100000 in
set_option maxHeartbeats 4000000 in
theorem qX11_trace (l : Launch) (E : Ev) {M : Mm} {o : Nat} {p1 : Int32} {rz : Int32} (hf : fX11_trace M o p1 = some rz) : Ct l E yX11_trace cX11_trace 2 (some .int) 3 64 0 0 [.ref (E.b + o), .int p1] M (some (.int rz)) M := by
  refine ct_of (by decide +kernel) (Nat.le_of_ble_eq_true rfl) fun p e s m args below meth c C hr hin hW ls hl => ?_
  have hl : lv_has ls 2 [(0, .ref (E.b + o)), (1, .int p1)] := hl
  unfold fX11_trace at hf
  refine lv_iload_n C.x C.b dX11_trace_0 rfl (lv_at hl 1 rfl) ?_
  refine lv_iconst (v := 0) C.x C.b dX11_trace_1 (by decide) ?_
  refine lv_aload_n C.x C.b dX11_trace_2 rfl (lv_at hl 0 rfl) ?_
  replace hf := x_b1 hf; obtain ⟨_, hk3_1, hf⟩ := hf
  replace hf := x_b1 hf; obtain ⟨x3_2, hx3_2, hf⟩ := hf
  refine x_callV (As := []) (a := o) (rest := [.int 0, .int p1]) C hW hl (qX11_bodiesKept l E hx3_2) (x_gk hk3_1) (by decide) (by decide) rfl gv_X11_352 ⟨rfl, hd_X11_bodiesKept⟩ rfl rfl (Nat.le_of_ble_eq_true rfl) dX11_trace_3 ⟨Nat.le_of_ble_eq_true rfl, Nat.le_of_ble_eq_true rfl⟩ ⟨Nat.le_of_ble_eq_true rfl, Nat.le_of_ble_eq_true rfl⟩ (fun H locs hW => ?_)
  refine lv_iconst (v := 1) C.x C.b dX11_trace_6 (by decide) ?_
  refine lv_isub C.x C.b dX11_trace_7 ?_
  replace hf := x_b1 hf; obtain ⟨x8_3, hx8_3, hf⟩ := hf
  refine x_callS (As := [.int p1, .int 0, .int (x3_2 - 1)]) (rest := []) C hW hl (qX11_isWithin l E hx8_3) gs_X11_69 hd_X11_isWithin rfl rfl (Nat.le_of_ble_eq_true rfl) dX11_trace_8 ⟨Nat.le_of_ble_eq_true rfl, Nat.le_of_ble_eq_true rfl⟩ ⟨Nat.le_of_ble_eq_true rfl, Nat.le_of_ble_eq_true rfl⟩ (fun H locs hW => ?_)
  refine lv_if_eq (tgt := 31) C.x C.b dX11_trace_11 rfl (fun c11 => ?_) (fun c11 => ?_)
  · replace hf := x_ip c11 hf
    refine lv_bipush (v := (-3)) C.x C.b dX11_trace_31 (by decide) ?_
    rw [x_e0 hf]
    exact x_iret C hr hW dX11_trace_33
  · replace hf := x_in c11 hf
    refine lv_aload_n C.x C.b dX11_trace_14 rfl (lv_at hl 0 rfl) ?_
    replace hf := x_b1 hf; obtain ⟨a15_4, ha15_4, hf⟩ := hf
    refine x_getn C hW fg_X11_65_14 ha15_4 dX11_trace_15 ?_
    refine lv_iload_n C.x C.b dX11_trace_18 rfl (lv_at hl 1 rfl) ?_
    replace hf := x_b1 hf; obtain ⟨_, hk19_5, hf⟩ := hf
    replace hf := x_b1 hf; obtain ⟨x19_6, hx19_6, hf⟩ := hf
    refine x_callV (As := [.int p1]) (a := a15_4) (rest := []) C hW hl (qJx4a65c_get_915e3 l E hx19_6) (x_gk hk19_5) (by decide) (by decide) rfl gv_X11_355 ⟨rfl, hd_Jx4a65c_get_915e3⟩ rfl rfl (Nat.le_of_ble_eq_true rfl) dX11_trace_19 ⟨Nat.le_of_ble_eq_true rfl, Nat.le_of_ble_eq_true rfl⟩ ⟨Nat.le_of_ble_eq_true rfl, Nat.le_of_ble_eq_true rfl⟩ (fun H locs hW => ?_)
    replace hf := x_b1 hf; obtain ⟨v22_7, hv22_7, hf⟩ := hf
    refine x_castB C hW (x_ibx hv22_7).1 T_6_11 dX11_trace_22 ?_
    replace hf := x_b1 hf; obtain ⟨_, hk25_8, hf⟩ := hf
    replace hf := x_b1 hf; obtain ⟨x25_9, hx25_9, hf⟩ := hf
    refine x_callA (As := []) (rest := []) (Cn := "java/lang/Integer") C hW hl (qJ6_intValue_8abf5 l E hx25_9) (bx_at C hW (x_ibx hk25_8).1) gv_X11_361 ⟨rfl, hd_J6_intValue_8abf5⟩ rfl rfl (Nat.le_of_ble_eq_true rfl) dX11_trace_25 ⟨Nat.le_of_ble_eq_true rfl, Nat.le_of_ble_eq_true rfl⟩ ⟨Nat.le_of_ble_eq_true rfl, Nat.le_of_ble_eq_true rfl⟩ (fun H locs hW => ?_)
    refine lv_goto (tgt := 33) C.x C.b dX11_trace_28 rfl ?_
    rw [x_e0 hf]
    exact x_iret C hr hW dX11_trace_33

theorem dX11_many_0 : decode cX11_many 0 = .ok (.iload_n 1, 1) := by decide +kernel
theorem dX11_many_1 : decode cX11_many 1 = .ok (.tableswitch 111 0 6 #[43, 51, 77, 85, 93, 98, 106], 43) := by decide +kernel
theorem dX11_many_44 : decode cX11_many 44 = .ok (.aload_n 0, 1) := by decide +kernel
theorem dX11_many_45 : decode cX11_many 45 = .ok (.getfield 10, 3) := by decide +kernel
theorem dX11_many_48 : decode cX11_many 48 = .ok (.getfield 94, 3) := by decide +kernel
theorem dX11_many_51 : decode cX11_many 51 = .ok (.ireturn, 1) := by decide +kernel
theorem dX11_many_52 : decode cX11_many 52 = .ok (.aload_n 0, 1) := by decide +kernel
theorem dX11_many_53 : decode cX11_many 53 = .ok (.getfield 10, 3) := by decide +kernel
theorem dX11_many_56 : decode cX11_many 56 = .ok (.getfield 253, 3) := by decide +kernel
theorem dX11_many_59 : decode cX11_many 59 = .ok (.iconst 0, 1) := by decide +kernel
theorem dX11_many_60 : decode cX11_many 60 = .ok (.aaload, 1) := by decide +kernel
theorem dX11_many_61 : decode cX11_many 61 = .ok (.getfield 204, 3) := by decide +kernel
theorem dX11_many_64 : decode cX11_many 64 = .ok (.aload_n 0, 1) := by decide +kernel
theorem dX11_many_65 : decode cX11_many 65 = .ok (.getfield 10, 3) := by decide +kernel
theorem dX11_many_68 : decode cX11_many 68 = .ok (.getfield 253, 3) := by decide +kernel
theorem dX11_many_71 : decode cX11_many 71 = .ok (.iconst 1, 1) := by decide +kernel
theorem dX11_many_72 : decode cX11_many 72 = .ok (.aaload, 1) := by decide +kernel
theorem dX11_many_73 : decode cX11_many 73 = .ok (.getfield 204, 3) := by decide +kernel
theorem dX11_many_76 : decode cX11_many 76 = .ok (.iadd, 1) := by decide +kernel
theorem dX11_many_77 : decode cX11_many 77 = .ok (.ireturn, 1) := by decide +kernel
theorem dX11_many_78 : decode cX11_many 78 = .ok (.aload_n 0, 1) := by decide +kernel
theorem dX11_many_79 : decode cX11_many 79 = .ok (.getfield 10, 3) := by decide +kernel
theorem dX11_many_82 : decode cX11_many 82 = .ok (.invokevirtual 364, 3) := by decide +kernel
theorem dX11_many_85 : decode cX11_many 85 = .ok (.ireturn, 1) := by decide +kernel
theorem dX11_many_86 : decode cX11_many 86 = .ok (.aload_n 0, 1) := by decide +kernel
theorem dX11_many_87 : decode cX11_many 87 = .ok (.getfield 10, 3) := by decide +kernel
theorem dX11_many_90 : decode cX11_many 90 = .ok (.invokevirtual 367, 3) := by decide +kernel
theorem dX11_many_93 : decode cX11_many 93 = .ok (.ireturn, 1) := by decide +kernel
theorem dX11_many_94 : decode cX11_many 94 = .ok (.aload_n 0, 1) := by decide +kernel
theorem dX11_many_95 : decode cX11_many 95 = .ok (.getfield 45, 3) := by decide +kernel
theorem dX11_many_98 : decode cX11_many 98 = .ok (.ireturn, 1) := by decide +kernel
theorem dX11_many_99 : decode cX11_many 99 = .ok (.aload_n 0, 1) := by decide +kernel
theorem dX11_many_100 : decode cX11_many 100 = .ok (.getfield 36, 3) := by decide +kernel
theorem dX11_many_103 : decode cX11_many 103 = .ok (.getfield 73, 3) := by decide +kernel
theorem dX11_many_106 : decode cX11_many 106 = .ok (.ireturn, 1) := by decide +kernel
theorem dX11_many_107 : decode cX11_many 107 = .ok (.aload_n 0, 1) := by decide +kernel
theorem dX11_many_108 : decode cX11_many 108 = .ok (.invokevirtual 352, 3) := by decide +kernel
theorem dX11_many_111 : decode cX11_many 111 = .ok (.ireturn, 1) := by decide +kernel
theorem dX11_many_112 : decode cX11_many 112 = .ok (.iconst (-1), 1) := by decide +kernel
theorem dX11_many_113 : decode cX11_many 113 = .ok (.ireturn, 1) := by decide +kernel
theorem hd_X0_ladders : yX0_ladders.cls ≠ "java/lang/invoke/MethodHandle" ∧ yX0_ladders.cls ≠ "java/lang/invoke/VarHandle" ∧ (parseMethodDescriptor yX0_ladders.desc).map (fun d => d.parameters.length) = some 0 := by decide +kernel
theorem gv_X11_364 : GoodIn gT (wsV "NylonLadder" 364 "NylonLadder$Drawer" yX0_ladders (Cond.code yX0_ladders cX0_ladders 3 (some .int) :: gT)) := good_V T_6_20 T_6_21 T_6_22 T_1_2 T_6_23
theorem hd_X0_dabsOfAll : yX0_dabsOfAll.cls ≠ "java/lang/invoke/MethodHandle" ∧ yX0_dabsOfAll.cls ≠ "java/lang/invoke/VarHandle" ∧ (parseMethodDescriptor yX0_dabsOfAll.desc).map (fun d => d.parameters.length) = some 0 := by decide +kernel
theorem gv_X11_367 : GoodIn gT (wsV "NylonLadder" 367 "NylonLadder$Drawer" yX0_dabsOfAll (Cond.code yX0_dabsOfAll cX0_dabsOfAll 3 (some .int) :: gT)) := good_V T_6_25 T_6_26 T_6_27 T_1_2 T_6_28
def fX11_many (M : Mm) (o : Nat) (p1 : Int32) : Option Int32 :=
  if p1 = 0 then
    B1 (rdN M o 14 0) fun a45_1 =>
    B1 (rdI M a45_1 3 2) fun x48_2 =>
    some x48_2
  else
    if p1 = 1 then
      B1 (rdN M o 14 0) fun a53_3 =>
      B1 (rdN M a53_3 3 4) fun a56_4 =>
      B1 (alN M a56_4 24 0) fun a60_5 =>
      B1 (rdI M a60_5 13 0) fun x61_6 =>
      B1 (rdN M o 14 0) fun a65_7 =>
      B1 (rdN M a65_7 3 4) fun a68_8 =>
      B1 (alN M a68_8 24 1) fun a72_9 =>
      B1 (rdI M a72_9 13 0) fun x73_10 =>
      some (x61_6 + x73_10)
    else
      if p1 = 2 then
        B1 (rdN M o 14 0) fun a79_11 =>
        B1 (gk M a79_11 3) fun _ =>
        B1 (fX0_ladders M a79_11) fun x82_13 =>
        some x82_13
      else
        if p1 = 3 then
          B1 (rdN M o 14 0) fun a87_14 =>
          B1 (gk M a87_14 3) fun _ =>
          B1 (fX0_dabsOfAll M a87_14) fun x90_16 =>
          some x90_16
        else
          if p1 = 4 then
            B1 (rdI M o 14 7) fun x95_17 =>
            some x95_17
          else
            if p1 = 5 then
              B1 (rdN M o 14 5) fun a100_18 =>
              B1 (rdI M a100_18 11 1) fun x103_19 =>
              some x103_19
            else
              if p1 = 6 then
                B1 (gk M o 14) fun _ =>
                B1 (fX11_bodiesKept M o) fun x108_21 =>
                some x108_21
              else
                some (-1)
set_option maxRecDepth 100000 in
set_option maxHeartbeats 4000000 in
theorem qX11_many (l : Launch) (E : Ev) {M : Mm} {o : Nat} {p1 : Int32} {rz : Int32} (hf : fX11_many M o p1 = some rz) : Ct l E yX11_many cX11_many 2 (some .int) 2 42 0 0 [.ref (E.b + o), .int p1] M (some (.int rz)) M := by
  refine ct_of (by decide +kernel) (Nat.le_of_ble_eq_true rfl) fun p e s m args below meth c C hr hin hW ls hl => ?_
  have hl : lv_has ls 2 [(0, .ref (E.b + o)), (1, .int p1)] := hl
  unfold fX11_many at hf
  refine lv_iload_n C.x C.b dX11_many_0 rfl (lv_at hl 1 rfl) ?_
  by_cases s1_0 : p1 = 0
  · replace hf := x_ip s1_0 hf
    refine lv_tableIn (off := 43) (tgt := 44) C.x C.b dX11_many_1 (by rw [s1_0]; decide) (by rw [s1_0]; decide) (by rw [s1_0]; rfl) rfl ?_
    refine lv_aload_n C.x C.b dX11_many_44 rfl (lv_at hl 0 rfl) ?_
    replace hf := x_b1 hf; obtain ⟨a45_1, ha45_1, hf⟩ := hf
    refine x_getn C hW fg_X11_10_14 ha45_1 dX11_many_45 ?_
    replace hf := x_b1 hf; obtain ⟨x48_2, hx48_2, hf⟩ := hf
    refine x_geti C hW fg_X11_94_3 hx48_2 dX11_many_48 ?_
    rw [x_e0 hf]
    exact x_iret C hr hW dX11_many_51
  · replace hf := x_in s1_0 hf
    by_cases s1_1 : p1 = 1
    · replace hf := x_ip s1_1 hf
      refine lv_tableIn (off := 51) (tgt := 52) C.x C.b dX11_many_1 (by rw [s1_1]; decide) (by rw [s1_1]; decide) (by rw [s1_1]; rfl) rfl ?_
      refine lv_aload_n C.x C.b dX11_many_52 rfl (lv_at hl 0 rfl) ?_
      replace hf := x_b1 hf; obtain ⟨a53_3, ha53_3, hf⟩ := hf
      refine x_getn C hW fg_X11_10_14 ha53_3 dX11_many_53 ?_
      replace hf := x_b1 hf; obtain ⟨a56_4, ha56_4, hf⟩ := hf
      refine x_getn C hW fg_X11_253_3 ha56_4 dX11_many_56 ?_
      refine lv_iconst (v := 0) C.x C.b dX11_many_59 (by decide) ?_
      replace hf := x_b1 hf; obtain ⟨a60_5, ha60_5, hf⟩ := hf
      refine x_aldn C hW (kd := 24) (by decide) (by decide) ha60_5 dX11_many_60 ?_
      replace hf := x_b1 hf; obtain ⟨x61_6, hx61_6, hf⟩ := hf
      refine x_geti C hW fg_X11_204_13 hx61_6 dX11_many_61 ?_
      refine lv_aload_n C.x C.b dX11_many_64 rfl (lv_at hl 0 rfl) ?_
      replace hf := x_b1 hf; obtain ⟨a65_7, ha65_7, hf⟩ := hf
      refine x_getn C hW fg_X11_10_14 ha65_7 dX11_many_65 ?_
      replace hf := x_b1 hf; obtain ⟨a68_8, ha68_8, hf⟩ := hf
      refine x_getn C hW fg_X11_253_3 ha68_8 dX11_many_68 ?_
      refine lv_iconst (v := 1) C.x C.b dX11_many_71 (by decide) ?_
      replace hf := x_b1 hf; obtain ⟨a72_9, ha72_9, hf⟩ := hf
      refine x_aldn C hW (kd := 24) (by decide) (by decide) ha72_9 dX11_many_72 ?_
      replace hf := x_b1 hf; obtain ⟨x73_10, hx73_10, hf⟩ := hf
      refine x_geti C hW fg_X11_204_13 hx73_10 dX11_many_73 ?_
      refine lv_iadd C.x C.b dX11_many_76 ?_
      rw [x_e0 hf]
      exact x_iret C hr hW dX11_many_77
    · replace hf := x_in s1_1 hf
      by_cases s1_2 : p1 = 2
      · replace hf := x_ip s1_2 hf
        refine lv_tableIn (off := 77) (tgt := 78) C.x C.b dX11_many_1 (by rw [s1_2]; decide) (by rw [s1_2]; decide) (by rw [s1_2]; rfl) rfl ?_
        refine lv_aload_n C.x C.b dX11_many_78 rfl (lv_at hl 0 rfl) ?_
        replace hf := x_b1 hf; obtain ⟨a79_11, ha79_11, hf⟩ := hf
        refine x_getn C hW fg_X11_10_14 ha79_11 dX11_many_79 ?_
        replace hf := x_b1 hf; obtain ⟨_, hk82_12, hf⟩ := hf
        replace hf := x_b1 hf; obtain ⟨x82_13, hx82_13, hf⟩ := hf
        refine x_callV (As := []) (a := a79_11) (rest := []) C hW hl (qX0_ladders l E hx82_13) (x_gk hk82_12) (by decide) (by decide) rfl gv_X11_364 ⟨rfl, hd_X0_ladders⟩ rfl rfl (Nat.le_of_ble_eq_true rfl) dX11_many_82 ⟨Nat.le_of_ble_eq_true rfl, Nat.le_of_ble_eq_true rfl⟩ ⟨Nat.le_of_ble_eq_true rfl, Nat.le_of_ble_eq_true rfl⟩ (fun H locs hW => ?_)
        rw [x_e0 hf]
        exact x_iret C hr hW dX11_many_85
      · replace hf := x_in s1_2 hf
        by_cases s1_3 : p1 = 3
        · replace hf := x_ip s1_3 hf
          refine lv_tableIn (off := 85) (tgt := 86) C.x C.b dX11_many_1 (by rw [s1_3]; decide) (by rw [s1_3]; decide) (by rw [s1_3]; rfl) rfl ?_
          refine lv_aload_n C.x C.b dX11_many_86 rfl (lv_at hl 0 rfl) ?_
          replace hf := x_b1 hf; obtain ⟨a87_14, ha87_14, hf⟩ := hf
          refine x_getn C hW fg_X11_10_14 ha87_14 dX11_many_87 ?_
          replace hf := x_b1 hf; obtain ⟨_, hk90_15, hf⟩ := hf
          replace hf := x_b1 hf; obtain ⟨x90_16, hx90_16, hf⟩ := hf
          refine x_callV (As := []) (a := a87_14) (rest := []) C hW hl (qX0_dabsOfAll l E hx90_16) (x_gk hk90_15) (by decide) (by decide) rfl gv_X11_367 ⟨rfl, hd_X0_dabsOfAll⟩ rfl rfl (Nat.le_of_ble_eq_true rfl) dX11_many_90 ⟨Nat.le_of_ble_eq_true rfl, Nat.le_of_ble_eq_true rfl⟩ ⟨Nat.le_of_ble_eq_true rfl, Nat.le_of_ble_eq_true rfl⟩ (fun H locs hW => ?_)
          rw [x_e0 hf]
          exact x_iret C hr hW dX11_many_93
        · replace hf := x_in s1_3 hf
          by_cases s1_4 : p1 = 4
          · replace hf := x_ip s1_4 hf
            refine lv_tableIn (off := 93) (tgt := 94) C.x C.b dX11_many_1 (by rw [s1_4]; decide) (by rw [s1_4]; decide) (by rw [s1_4]; rfl) rfl ?_
            refine lv_aload_n C.x C.b dX11_many_94 rfl (lv_at hl 0 rfl) ?_
            replace hf := x_b1 hf; obtain ⟨x95_17, hx95_17, hf⟩ := hf
            refine x_geti C hW fg_X11_45_14 hx95_17 dX11_many_95 ?_
            rw [x_e0 hf]
            exact x_iret C hr hW dX11_many_98
          · replace hf := x_in s1_4 hf
            by_cases s1_5 : p1 = 5
            · replace hf := x_ip s1_5 hf
              refine lv_tableIn (off := 98) (tgt := 99) C.x C.b dX11_many_1 (by rw [s1_5]; decide) (by rw [s1_5]; decide) (by rw [s1_5]; rfl) rfl ?_
              refine lv_aload_n C.x C.b dX11_many_99 rfl (lv_at hl 0 rfl) ?_
              replace hf := x_b1 hf; obtain ⟨a100_18, ha100_18, hf⟩ := hf
              refine x_getn C hW fg_X11_36_14 ha100_18 dX11_many_100 ?_
              replace hf := x_b1 hf; obtain ⟨x103_19, hx103_19, hf⟩ := hf
              refine x_geti C hW fg_X11_73_11 hx103_19 dX11_many_103 ?_
              rw [x_e0 hf]
              exact x_iret C hr hW dX11_many_106
            · replace hf := x_in s1_5 hf
              by_cases s1_6 : p1 = 6
              · replace hf := x_ip s1_6 hf
                refine lv_tableIn (off := 106) (tgt := 107) C.x C.b dX11_many_1 (by rw [s1_6]; decide) (by rw [s1_6]; decide) (by rw [s1_6]; rfl) rfl ?_
                refine lv_aload_n C.x C.b dX11_many_107 rfl (lv_at hl 0 rfl) ?_
                replace hf := x_b1 hf; obtain ⟨_, hk108_20, hf⟩ := hf
                replace hf := x_b1 hf; obtain ⟨x108_21, hx108_21, hf⟩ := hf
                refine x_callV (As := []) (a := o) (rest := []) C hW hl (qX11_bodiesKept l E hx108_21) (x_gk hk108_20) (by decide) (by decide) rfl gv_X11_352 ⟨rfl, hd_X11_bodiesKept⟩ rfl rfl (Nat.le_of_ble_eq_true rfl) dX11_many_108 ⟨Nat.le_of_ble_eq_true rfl, Nat.le_of_ble_eq_true rfl⟩ ⟨Nat.le_of_ble_eq_true rfl, Nat.le_of_ble_eq_true rfl⟩ (fun H locs hW => ?_)
                rw [x_e0 hf]
                exact x_iret C hr hW dX11_many_111
              · replace hf := x_in s1_6 hf
                have s1_0_ := lv_neT (a := 0) s1_0 rfl
                have s1_1_ := lv_neT (a := 1) s1_1 rfl
                have s1_2_ := lv_neT (a := 2) s1_2 rfl
                have s1_3_ := lv_neT (a := 3) s1_3 rfl
                have s1_4_ := lv_neT (a := 4) s1_4 rfl
                have s1_5_ := lv_neT (a := 5) s1_5 rfl
                have s1_6_ := lv_neT (a := 6) s1_6 rfl
                refine lv_tableOut (tgt := 112) C.x C.b dX11_many_1 (by omega) rfl ?_
                refine lv_iconst (v := (-1)) C.x C.b dX11_many_112 (by decide) ?_
                rw [x_e0 hf]
                exact x_iret C hr hW dX11_many_113

theorem dX11_keep_0 : decode cX11_keep 0 = .ok (.aload_n 0, 1) := by decide +kernel
theorem dX11_keep_1 : decode cX11_keep 1 = .ok (.getfield 16, 3) := by decide +kernel
theorem dX11_keep_4 : decode cX11_keep 4 = .ok (.aload_n 0, 1) := by decide +kernel
theorem dX11_keep_5 : decode cX11_keep 5 = .ok (.getfield 10, 3) := by decide +kernel
theorem dX11_keep_8 : decode cX11_keep 8 = .ok (.invokevirtual 90, 3) := by decide +kernel
theorem dX11_keep_11 : decode cX11_keep 11 = .ok (.aload_n 0, 1) := by decide +kernel
theorem dX11_keep_12 : decode cX11_keep 12 = .ok (.iconst 1, 1) := by decide +kernel
theorem dX11_keep_13 : decode cX11_keep 13 = .ok (.putfield 19, 3) := by decide +kernel
theorem dX11_keep_16 : decode cX11_keep 16 = .ok (.iconst 1, 1) := by decide +kernel
theorem dX11_keep_17 : decode cX11_keep 17 = .ok (.ireturn, 1) := by decide +kernel
theorem fg_X11_16_14 : FdG "NylonLadder" 16 14 1 true := ⟨_, _, _, _, rfl, by decide, by decide, by decide, gxX11, by decide, T_1_231, Or.inl rfl, rfl⟩
def fX11_keep (M : Mm) (o : Nat) : Option (Int32 × Mm) :=
  B1 (rdN M o 14 1) fun a1_1 =>
  B1 (rdN M o 14 0) fun a5_2 =>
  B1 (gk M a1_1 3) fun _ =>
  B1 (fX0_become M a1_1 a5_2) fun M8_4 =>
  B1 (wrZ M8_4 o 14 2 1) fun M13_5 =>
  some (1, M13_5)
set_option maxRecDepth 100000 in
set_option maxHeartbeats 4000000 in
theorem qX11_keep (l : Launch) (E : Ev) {M : Mm} {o : Nat} {rz : Int32} {Mz : Mm} (hf : fX11_keep M o = some (rz, Mz)) : Ct l E yX11_keep cX11_keep 1 (some .int) 4 87 0 0 [.ref (E.b + o)] M (some (.int rz)) Mz := by
  refine ct_of (by decide +kernel) (Nat.le_of_ble_eq_true rfl) fun p e s m args below meth c C hr hin hW ls hl => ?_
  have hl : lv_has ls 1 [(0, .ref (E.b + o))] := hl
  unfold fX11_keep at hf
  refine lv_aload_n C.x C.b dX11_keep_0 rfl (lv_at hl 0 rfl) ?_
  replace hf := x_b1 hf; obtain ⟨a1_1, ha1_1, hf⟩ := hf
  refine x_getn C hW fg_X11_16_14 ha1_1 dX11_keep_1 ?_
  refine lv_aload_n C.x C.b dX11_keep_4 rfl (lv_at hl 0 rfl) ?_
  replace hf := x_b1 hf; obtain ⟨a5_2, ha5_2, hf⟩ := hf
  refine x_getn C hW fg_X11_10_14 ha5_2 dX11_keep_5 ?_
  replace hf := x_b1 hf; obtain ⟨_, hk8_3, hf⟩ := hf
  replace hf := x_b1 hf; obtain ⟨M8_4, hM8_4, hf⟩ := hf
  refine x_callV (As := [.ref (E.b + a5_2)]) (a := a1_1) (rest := []) C hW hl (qX0_become l E hM8_4) (x_gk hk8_3) (by decide) (by decide) rfl gv_X11_90 ⟨rfl, hd_X0_become⟩ rfl rfl (Nat.le_of_ble_eq_true rfl) dX11_keep_8 ⟨Nat.le_of_ble_eq_true rfl, Nat.le_of_ble_eq_true rfl⟩ ⟨Nat.le_of_ble_eq_true rfl, Nat.le_of_ble_eq_true rfl⟩ (fun H locs hW => ?_)
  refine lv_aload_n C.x C.b dX11_keep_11 rfl (lv_at hl 0 rfl) ?_
  refine lv_iconst (v := 1) C.x C.b dX11_keep_12 (by decide) ?_
  replace hf := x_b1 hf; obtain ⟨M13_5, hM13_5, hf⟩ := hf
  refine x_putz C hW fp_X11_19_14 hM13_5 (fun h => by cases h) dX11_keep_13 (fun H locs hW => ?_)
  refine lv_iconst (v := 1) C.x C.b dX11_keep_16 (by decide) ?_
  rw [x_e1 hf, x_e2 hf]
  exact x_iret C hr hW dX11_keep_17

theorem dX11_again_0 : decode cX11_again 0 = .ok (.aload_n 0, 1) := by decide +kernel
theorem dX11_again_1 : decode cX11_again 1 = .ok (.getfield 19, 3) := by decide +kernel
theorem dX11_again_4 : decode cX11_again 4 = .ok (.ifCond .ne 6, 3) := by decide +kernel
theorem dX11_again_7 : decode cX11_again 7 = .ok (.bipush (-3), 2) := by decide +kernel
theorem dX11_again_9 : decode cX11_again 9 = .ok (.ireturn, 1) := by decide +kernel
theorem dX11_again_10 : decode cX11_again 10 = .ok (.aload_n 0, 1) := by decide +kernel
theorem dX11_again_11 : decode cX11_again 11 = .ok (.getfield 10, 3) := by decide +kernel
theorem dX11_again_14 : decode cX11_again 14 = .ok (.aload_n 0, 1) := by decide +kernel
theorem dX11_again_15 : decode cX11_again 15 = .ok (.getfield 16, 3) := by decide +kernel
theorem dX11_again_18 : decode cX11_again 18 = .ok (.invokevirtual 90, 3) := by decide +kernel
theorem dX11_again_21 : decode cX11_again 21 = .ok (.aload_n 0, 1) := by decide +kernel
theorem dX11_again_22 : decode cX11_again 22 = .ok (.getfield 10, 3) := by decide +kernel
theorem dX11_again_25 : decode cX11_again 25 = .ok (.getfield 94, 3) := by decide +kernel
theorem dX11_again_28 : decode cX11_again 28 = .ok (.ireturn, 1) := by decide +kernel
theorem fg_X11_19_14 : FdG "NylonLadder" 19 14 2 false := ⟨_, _, _, _, rfl, by decide, by decide, by decide, gxX11, by decide, T_1_232, Or.inl rfl, rfl⟩
def fX11_again (M : Mm) (o : Nat) : Option (Int32 × Mm) :=
  B1 (rdI M o 14 2) fun x1_1 =>
  if x1_1 = 0 then
    some ((-3), M)
  else
    B1 (rdN M o 14 0) fun a11_2 =>
    B1 (rdN M o 14 1) fun a15_3 =>
    B1 (gk M a11_2 3) fun _ =>
    B1 (fX0_become M a11_2 a15_3) fun M18_5 =>
    B1 (rdN M18_5 o 14 0) fun a22_6 =>
    B1 (rdI M18_5 a22_6 3 2) fun x25_7 =>
    some (x25_7, M18_5)
set_option maxRecDepth 100000 in
set_option maxHeartbeats 4000000 in
theorem qX11_again (l : Launch) (E : Ev) {M : Mm} {o : Nat} {rz : Int32} {Mz : Mm} (hf : fX11_again M o = some (rz, Mz)) : Ct l E yX11_again cX11_again 1 (some .int) 4 87 0 0 [.ref (E.b + o)] M (some (.int rz)) Mz := by
  refine ct_of (by decide +kernel) (Nat.le_of_ble_eq_true rfl) fun p e s m args below meth c C hr hin hW ls hl => ?_
  have hl : lv_has ls 1 [(0, .ref (E.b + o))] := hl
  unfold fX11_again at hf
  refine lv_aload_n C.x C.b dX11_again_0 rfl (lv_at hl 0 rfl) ?_
  replace hf := x_b1 hf; obtain ⟨x1_1, hx1_1, hf⟩ := hf
  refine x_geti C hW fg_X11_19_14 hx1_1 dX11_again_1 ?_
  refine lv_if_ne (tgt := 10) C.x C.b dX11_again_4 rfl (fun c4 => ?_) (fun c4 => ?_)
  · replace hf := x_in c4 hf
    refine lv_aload_n C.x C.b dX11_again_10 rfl (lv_at hl 0 rfl) ?_
    replace hf := x_b1 hf; obtain ⟨a11_2, ha11_2, hf⟩ := hf
    refine x_getn C hW fg_X11_10_14 ha11_2 dX11_again_11 ?_
    refine lv_aload_n C.x C.b dX11_again_14 rfl (lv_at hl 0 rfl) ?_
    replace hf := x_b1 hf; obtain ⟨a15_3, ha15_3, hf⟩ := hf
    refine x_getn C hW fg_X11_16_14 ha15_3 dX11_again_15 ?_
    replace hf := x_b1 hf; obtain ⟨_, hk18_4, hf⟩ := hf
    replace hf := x_b1 hf; obtain ⟨M18_5, hM18_5, hf⟩ := hf
    refine x_callV (As := [.ref (E.b + a15_3)]) (a := a11_2) (rest := []) C hW hl (qX0_become l E hM18_5) (x_gk hk18_4) (by decide) (by decide) rfl gv_X11_90 ⟨rfl, hd_X0_become⟩ rfl rfl (Nat.le_of_ble_eq_true rfl) dX11_again_18 ⟨Nat.le_of_ble_eq_true rfl, Nat.le_of_ble_eq_true rfl⟩ ⟨Nat.le_of_ble_eq_true rfl, Nat.le_of_ble_eq_true rfl⟩ (fun H locs hW => ?_)
    refine lv_aload_n C.x C.b dX11_again_21 rfl (lv_at hl 0 rfl) ?_
    replace hf := x_b1 hf; obtain ⟨a22_6, ha22_6, hf⟩ := hf
    refine x_getn C hW fg_X11_10_14 ha22_6 dX11_again_22 ?_
    replace hf := x_b1 hf; obtain ⟨x25_7, hx25_7, hf⟩ := hf
    refine x_geti C hW fg_X11_94_3 hx25_7 dX11_again_25 ?_
    rw [x_e1 hf, x_e2 hf]
    exact x_iret C hr hW dX11_again_28
  · replace hf := x_ip c4 hf
    refine lv_bipush (v := (-3)) C.x C.b dX11_again_7 (by decide) ?_
    rw [x_e1 hf, x_e2 hf]
    exact x_iret C hr hW dX11_again_9
