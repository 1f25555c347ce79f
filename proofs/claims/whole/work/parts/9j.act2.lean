section ACTSW
variable {M X : Mm}
/-- what act does once there is a thing: the component -/
def cSw (x64_17 : Option Nat) (M64_18 : Mm) (p2 p3 : Int32) : Option (Int32 × Mm) :=
  if p2 = 0 then
    B1 x64_17 fun a99_19 =>
    if M64_18.k a99_19 = 4 then
      B1 (gk M64_18 a99_19 4) fun _ =>
      B2 (fX1_runs_k4 M64_18 a99_19 p3) fun x99_21 M99_22 =>
      B1 (rdI M99_22 a99_19 4 3) fun x139_23 =>
      if x139_23 = 0 then
        some (x99_21, M99_22)
      else
        some ((-15), M99_22)
    else
      if M64_18.k a99_19 = 5 then
        B1 (gk M64_18 a99_19 5) fun _ =>
        B2 (fX2_runs_k5 M64_18 a99_19 p3) fun x99_25 M99_26 =>
        B1 (rdI M99_26 a99_19 5 3) fun x139_27 =>
        if x139_27 = 0 then
          some (x99_25, M99_26)
        else
          some ((-15), M99_26)
      else
        if M64_18.k a99_19 = 6 then
          B1 (gk M64_18 a99_19 6) fun _ =>
          B2 (fX4_runs_k6 M64_18 a99_19 p3) fun x99_29 M99_30 =>
          B1 (rdI M99_30 a99_19 6 3) fun x139_31 =>
          if x139_31 = 0 then
            some (x99_29, M99_30)
          else
            some ((-15), M99_30)
        else
          if M64_18.k a99_19 = 7 then
            B1 (gk M64_18 a99_19 7) fun _ =>
            B2 (fX4_runs_k7 M64_18 a99_19 p3) fun x99_33 M99_34 =>
            B1 (rdI M99_34 a99_19 7 3) fun x139_35 =>
            if x139_35 = 0 then
              some (x99_33, M99_34)
            else
              some ((-15), M99_34)
          else
            if M64_18.k a99_19 = 8 then
              B1 (gk M64_18 a99_19 8) fun _ =>
              B2 (fX4_runs_k8 M64_18 a99_19 p3) fun x99_37 M99_38 =>
              B1 (rdI M99_38 a99_19 8 3) fun x139_39 =>
              if x139_39 = 0 then
                some (x99_37, M99_38)
              else
                some ((-15), M99_38)
            else
              if M64_18.k a99_19 = 12 then
                B1 (gk M64_18 a99_19 12) fun _ =>
                B2 (fX9_runs_k12 M64_18 a99_19 p3) fun x99_41 M99_42 =>
                B1 (rdI M99_42 a99_19 12 3) fun x139_43 =>
                if x139_43 = 0 then
                  some (x99_41, M99_42)
                else
                  some ((-15), M99_42)
              else
                none
  else
    if p2 = 1 then
      B1 x64_17 fun a110_44 =>
      if M64_18.k a110_44 = 4 then
        B1 (gk M64_18 a110_44 4) fun _ =>
        B2 (fX1_dries_k4 M64_18 a110_44 p3) fun x110_46 M110_47 =>
        B1 (rdI M110_47 a110_44 4 3) fun x139_48 =>
        if x139_48 = 0 then
          some (x110_46, M110_47)
        else
          some ((-15), M110_47)
      else
        if M64_18.k a110_44 = 5 then
          B1 (gk M64_18 a110_44 5) fun _ =>
          B2 (fX5_dries_k5 M64_18 a110_44 p3) fun x110_50 M110_51 =>
          B1 (rdI M110_51 a110_44 5 3) fun x139_52 =>
          if x139_52 = 0 then
            some (x110_50, M110_51)
          else
            some ((-15), M110_51)
        else
          if M64_18.k a110_44 = 6 then
            B1 (gk M64_18 a110_44 6) fun _ =>
            B2 (fX4_dries_k6 M64_18 a110_44 p3) fun x110_54 M110_55 =>
            B1 (rdI M110_55 a110_44 6 3) fun x139_56 =>
            if x139_56 = 0 then
              some (x110_54, M110_55)
            else
              some ((-15), M110_55)
          else
            if M64_18.k a110_44 = 7 then
              B1 (gk M64_18 a110_44 7) fun _ =>
              B2 (fX4_dries_k7 M64_18 a110_44 p3) fun x110_58 M110_59 =>
              B1 (rdI M110_59 a110_44 7 3) fun x139_60 =>
              if x139_60 = 0 then
                some (x110_58, M110_59)
              else
                some ((-15), M110_59)
            else
              if M64_18.k a110_44 = 8 then
                B1 (gk M64_18 a110_44 8) fun _ =>
                B2 (fX5_dries_k8 M64_18 a110_44 p3) fun x110_62 M110_63 =>
                B1 (rdI M110_63 a110_44 8 3) fun x139_64 =>
                if x139_64 = 0 then
                  some (x110_62, M110_63)
                else
                  some ((-15), M110_63)
              else
                if M64_18.k a110_44 = 12 then
                  B1 (gk M64_18 a110_44 12) fun _ =>
                  B2 (fX4_dries_k12 M64_18 a110_44 p3) fun x110_66 M110_67 =>
                  B1 (rdI M110_67 a110_44 12 3) fun x139_68 =>
                  if x139_68 = 0 then
                    some (x110_66, M110_67)
                  else
                    some ((-15), M110_67)
                else
                  none
    else
      if p2 = 2 then
        B1 x64_17 fun a121_69 =>
        if M64_18.k a121_69 = 4 then
          B1 (gk M64_18 a121_69 4) fun _ =>
          B2 (fX4_holds_k4 M64_18 a121_69 p3) fun x121_71 M121_72 =>
          B1 (rdI M121_72 a121_69 4 3) fun x139_73 =>
          if x139_73 = 0 then
            some (x121_71, M121_72)
          else
            some ((-15), M121_72)
        else
          if M64_18.k a121_69 = 5 then
            B1 (gk M64_18 a121_69 5) fun _ =>
            B2 (fX2_holds_k5 M64_18 a121_69 p3) fun x121_75 M121_76 =>
            B1 (rdI M121_76 a121_69 5 3) fun x139_77 =>
            if x139_77 = 0 then
              some (x121_75, M121_76)
            else
              some ((-15), M121_76)
          else
            if M64_18.k a121_69 = 6 then
              B1 (gk M64_18 a121_69 6) fun _ =>
              B2 (fX3_holds_k6 M64_18 a121_69 p3) fun x121_79 M121_80 =>
              B1 (rdI M121_80 a121_69 6 3) fun x139_81 =>
              if x139_81 = 0 then
                some (x121_79, M121_80)
              else
                some ((-15), M121_80)
            else
              if M64_18.k a121_69 = 7 then
                B1 (gk M64_18 a121_69 7) fun _ =>
                B2 (fX4_holds_k7 M64_18 a121_69 p3) fun x121_83 M121_84 =>
                B1 (rdI M121_84 a121_69 7 3) fun x139_85 =>
                if x139_85 = 0 then
                  some (x121_83, M121_84)
                else
                  some ((-15), M121_84)
              else
                if M64_18.k a121_69 = 8 then
                  B1 (gk M64_18 a121_69 8) fun _ =>
                  B2 (fX4_holds_k8 M64_18 a121_69 p3) fun x121_87 M121_88 =>
                  B1 (rdI M121_88 a121_69 8 3) fun x139_89 =>
                  if x139_89 = 0 then
                    some (x121_87, M121_88)
                  else
                    some ((-15), M121_88)
                else
                  if M64_18.k a121_69 = 12 then
                    B1 (gk M64_18 a121_69 12) fun _ =>
                    B2 (fX4_holds_k12 M64_18 a121_69 p3) fun x121_91 M121_92 =>
                    B1 (rdI M121_92 a121_69 12 3) fun x139_93 =>
                    if x139_93 = 0 then
                      some (x121_91, M121_92)
                    else
                      some ((-15), M121_92)
                  else
                    none
      else
        B1 x64_17 fun a132_94 =>
        if M64_18.k a132_94 = 4 then
          B1 (gk M64_18 a132_94 4) fun _ =>
          B2 (fX9_tells_k4 M64_18 a132_94 p3) fun x132_96 M132_97 =>
          B1 (rdI M132_97 a132_94 4 3) fun x139_98 =>
          if x139_98 = 0 then
            some (x132_96, M132_97)
          else
            some ((-15), M132_97)
        else
          if M64_18.k a132_94 = 5 then
            B1 (gk M64_18 a132_94 5) fun _ =>
            B2 (fX4_tells_k5 M64_18 a132_94 p3) fun x132_100 M132_101 =>
            B1 (rdI M132_101 a132_94 5 3) fun x139_102 =>
            if x139_102 = 0 then
              some (x132_100, M132_101)
            else
              some ((-15), M132_101)
          else
            if M64_18.k a132_94 = 6 then
              B1 (gk M64_18 a132_94 6) fun _ =>
              B2 (fX3_tells_k6 M64_18 a132_94 p3) fun x132_104 M132_105 =>
              B1 (rdI M132_105 a132_94 6 3) fun x139_106 =>
              if x139_106 = 0 then
                some (x132_104, M132_105)
              else
                some ((-15), M132_105)
            else
              if M64_18.k a132_94 = 7 then
                B1 (gk M64_18 a132_94 7) fun _ =>
                B2 (fX4_tells_k7 M64_18 a132_94 p3) fun x132_108 M132_109 =>
                B1 (rdI M132_109 a132_94 7 3) fun x139_110 =>
                if x139_110 = 0 then
                  some (x132_108, M132_109)
                else
                  some ((-15), M132_109)
              else
                if M64_18.k a132_94 = 8 then
                  B1 (gk M64_18 a132_94 8) fun _ =>
                  B2 (fX4_tells_k8 M64_18 a132_94 p3) fun x132_112 M132_113 =>
                  B1 (rdI M132_113 a132_94 8 3) fun x139_114 =>
                  if x139_114 = 0 then
                    some (x132_112, M132_113)
                  else
                    some ((-15), M132_113)
                else
                  if M64_18.k a132_94 = 12 then
                    B1 (gk M64_18 a132_94 12) fun _ =>
                    B2 (fX9_tells_k12 M64_18 a132_94 p3) fun x132_116 M132_117 =>
                    B1 (rdI M132_117 a132_94 12 3) fun x139_118 =>
                    if x139_118 = 0 then
                      some (x132_116, M132_117)
                    else
                      some ((-15), M132_117)
                  else
                    none
/-- and the reference -/
def mSw (o : Nat) (M67_17 : Mm) (p2 p3 : Int32) : Option (Int32 × Mm) :=
  if p2 = 0 then
    B1 (gk M67_17 o 15) fun _ =>
    B2 (fX12_runsOf M67_17 o p3) fun x76_31 M76_32 =>
    B1 (rdI M76_32 o 15 24) fun x116_33 =>
    if x116_33 = 0 then
      some (x76_31, M76_32)
    else
      some ((-15), M76_32)
  else
    if p2 = 1 then
      B1 (gk M67_17 o 15) fun _ =>
      B2 (fX12_driesOf M67_17 o p3) fun x89_27 M89_28 =>
      B1 (rdI M89_28 o 15 24) fun x116_29 =>
      if x116_29 = 0 then
        some (x89_27, M89_28)
      else
        some ((-15), M89_28)
    else
      if p2 = 2 then
        B1 (gk M67_17 o 15) fun _ =>
        B2 (fX12_holdsOf M67_17 o p3) fun x102_23 M102_24 =>
        B1 (rdI M102_24 o 15 24) fun x116_25 =>
        if x116_25 = 0 then
          some (x102_23, M102_24)
        else
          some ((-15), M102_24)
      else
        B1 (gk M67_17 o 15) fun _ =>
        B2 (fX12_tellsOf M67_17 o p3) fun x110_19 M110_20 =>
        B1 (rdI M110_20 o 15 24) fun x116_21 =>
        if x116_21 = 0 then
          some (x110_19, M110_20)
        else
          some ((-15), M110_20)
theorem csw_0_0 {th : Nat} {n a : Int} (s : CA M X th 7 n a [] 0) (x : Int32) : ∃ Y, cSw (some th) X (i2 0) x = some ((x + i2 n), Y) ∧ CA M Y th 7 n a [10] 0 := by
  obtain ⟨Y, y, s1⟩ := ca_r4_0 s (by simp) x
  obtain ⟨sa, sb, sc, sd, se, sf⟩ := ca_rd s
  obtain ⟨ta, tb, tc, td, te, tf⟩ := ca_rd s1
  have hk : X.k th = 7 := s.2.2.1.1
  refine ⟨Y, ?_, by simpa using s1⟩
  unfold cSw
  simp -dsimp (disch := omega) only [↓B1_bp, ↓B2_bp, BP_some, BQ_some, ↓reduceIte, L_0, L_1, L_2, L_3, L_4, L_5, L_10, L_11, L_12, L_13, L_20, L_30, L_31, L_40, L_41, L_50, L_51, L_60, L_61, i2_eq, Int.reduceEq, if_true, if_false, L_15, i2_neg, Int.reduceNeg, hk, Nat.reduceEqDiff, sc, y, tf]
theorem msw_0_0 {Y : Mm} {n a : Int} (s : RA M Y 0 n a [] 0) (x : Int32) : ∃ Z, mSw 164 Y (i2 0) x = some ((x + i2 n), Z) ∧ RA M Z 0 n a [10] 0 := by
  obtain ⟨Z, y, s1⟩ := ra_r_0 s (by simp) x
  obtain ⟨sa, sb, sc, sd, se⟩ := ra_rd s
  obtain ⟨ta, tb, tc, td, te⟩ := ra_rd s1
  refine ⟨Z, ?_, by simpa using s1⟩
  unfold mSw
  simp -dsimp (disch := omega) only [↓B1_bp, ↓B2_bp, BP_some, BQ_some, ↓reduceIte, L_0, L_1, L_2, L_3, L_4, L_5, L_10, L_11, L_12, L_13, L_20, L_30, L_31, L_40, L_41, L_50, L_51, L_60, L_61, i2_eq, Int.reduceEq, if_true, if_false, L_15, i2_neg, Int.reduceNeg, sa, y, te]
theorem csw_0_1 {th : Nat} {n a : Int} (s : CA M X th 7 n a [] 0) (x : Int32) : ∃ Y, cSw (some th) X (i2 1) x = some (((x + i2 n) * i2 2), Y) ∧ CA M Y th 7 n a [11, 10] 0 := by
  obtain ⟨Y, y, s1⟩ := ca_d4_0 s (by simp) x
  obtain ⟨sa, sb, sc, sd, se, sf⟩ := ca_rd s
  obtain ⟨ta, tb, tc, td, te, tf⟩ := ca_rd s1
  have hk : X.k th = 7 := s.2.2.1.1
  refine ⟨Y, ?_, by simpa using s1⟩
  unfold cSw
  simp -dsimp (disch := omega) only [↓B1_bp, ↓B2_bp, BP_some, BQ_some, ↓reduceIte, L_0, L_1, L_2, L_3, L_4, L_5, L_10, L_11, L_12, L_13, L_20, L_30, L_31, L_40, L_41, L_50, L_51, L_60, L_61, i2_eq, Int.reduceEq, if_true, if_false, L_15, i2_neg, Int.reduceNeg, hk, Nat.reduceEqDiff, sc, y, tf]
theorem msw_0_1 {Y : Mm} {n a : Int} (s : RA M Y 0 n a [] 0) (x : Int32) : ∃ Z, mSw 164 Y (i2 1) x = some (((x + i2 n) * i2 2), Z) ∧ RA M Z 0 n a [11, 10] 0 := by
  obtain ⟨Z, y, s1⟩ := ra_d_0 s (by simp) x
  obtain ⟨sa, sb, sc, sd, se⟩ := ra_rd s
  obtain ⟨ta, tb, tc, td, te⟩ := ra_rd s1
  refine ⟨Z, ?_, by simpa using s1⟩
  unfold mSw
  simp -dsimp (disch := omega) only [↓B1_bp, ↓B2_bp, BP_some, BQ_some, ↓reduceIte, L_0, L_1, L_2, L_3, L_4, L_5, L_10, L_11, L_12, L_13, L_20, L_30, L_31, L_40, L_41, L_50, L_51, L_60, L_61, i2_eq, Int.reduceEq, if_true, if_false, L_15, i2_neg, Int.reduceNeg, sa, y, te]
theorem csw_0_2_p {th : Nat} {n a : Int} (s : CA M X th 7 n a [] 0) (hz : (i2 a - i2 n = i2 0) = True) (x : Int32) : ∃ Y, cSw (some th) X (i2 2) x = some (i2 (-15), Y) ∧ CA M Y th 7 n a [12] 1 := by
  obtain ⟨Y, y, s1⟩ := ca_h4_0_p s hz (by simp) x
  obtain ⟨sa, sb, sc, sd, se, sf⟩ := ca_rd s
  obtain ⟨ta, tb, tc, td, te, tf⟩ := ca_rd s1
  have hk : X.k th = 7 := s.2.2.1.1
  refine ⟨Y, ?_, by simpa using s1⟩
  unfold cSw
  simp -dsimp (disch := omega) only [↓B1_bp, ↓B2_bp, BP_some, BQ_some, ↓reduceIte, L_0, L_1, L_2, L_3, L_4, L_5, L_10, L_11, L_12, L_13, L_20, L_30, L_31, L_40, L_41, L_50, L_51, L_60, L_61, i2_eq, Int.reduceEq, if_true, if_false, L_15, i2_neg, Int.reduceNeg, hk, Nat.reduceEqDiff, sc, y, tf]
theorem msw_0_2_p {Y : Mm} {n a : Int} (s : RA M Y 0 n a [] 0) (hz : (i2 a = i2 n) = True) (x : Int32) : ∃ Z, mSw 164 Y (i2 2) x = some (i2 (-15), Z) ∧ RA M Z 0 n a [12] 1 := by
  obtain ⟨Z, y, s1⟩ := ra_h_0_p s hz (by simp) x
  obtain ⟨sa, sb, sc, sd, se⟩ := ra_rd s
  obtain ⟨ta, tb, tc, td, te⟩ := ra_rd s1
  refine ⟨Z, ?_, by simpa using s1⟩
  unfold mSw
  simp -dsimp (disch := omega) only [↓B1_bp, ↓B2_bp, BP_some, BQ_some, ↓reduceIte, L_0, L_1, L_2, L_3, L_4, L_5, L_10, L_11, L_12, L_13, L_20, L_30, L_31, L_40, L_41, L_50, L_51, L_60, L_61, i2_eq, Int.reduceEq, if_true, if_false, L_15, i2_neg, Int.reduceNeg, sa, y, te]
theorem csw_0_2_q {th : Nat} {n a : Int} (s : CA M X th 7 n a [] 0) (hz : (i2 a - i2 n = i2 0) = False) (x : Int32) : ∃ Y, cSw (some th) X (i2 2) x = some ((x / (i2 a - i2 n)), Y) ∧ CA M Y th 7 n a [12] 0 := by
  obtain ⟨Y, y, s1⟩ := ca_h4_0_q s hz (by simp) x
  obtain ⟨sa, sb, sc, sd, se, sf⟩ := ca_rd s
  obtain ⟨ta, tb, tc, td, te, tf⟩ := ca_rd s1
  have hk : X.k th = 7 := s.2.2.1.1
  refine ⟨Y, ?_, by simpa using s1⟩
  unfold cSw
  simp -dsimp (disch := omega) only [↓B1_bp, ↓B2_bp, BP_some, BQ_some, ↓reduceIte, L_0, L_1, L_2, L_3, L_4, L_5, L_10, L_11, L_12, L_13, L_20, L_30, L_31, L_40, L_41, L_50, L_51, L_60, L_61, i2_eq, Int.reduceEq, if_true, if_false, L_15, i2_neg, Int.reduceNeg, hk, Nat.reduceEqDiff, sc, y, tf]
theorem msw_0_2_q {Y : Mm} {n a : Int} (s : RA M Y 0 n a [] 0) (hz : (i2 a = i2 n) = False) (nz : nzI (i2 a - i2 n) = some ()) (x : Int32) : ∃ Z, mSw 164 Y (i2 2) x = some ((x / (i2 a - i2 n)), Z) ∧ RA M Z 0 n a [12] 0 := by
  obtain ⟨Z, y, s1⟩ := ra_h_0_q s hz nz (by simp) x
  obtain ⟨sa, sb, sc, sd, se⟩ := ra_rd s
  obtain ⟨ta, tb, tc, td, te⟩ := ra_rd s1
  refine ⟨Z, ?_, by simpa using s1⟩
  unfold mSw
  simp -dsimp (disch := omega) only [↓B1_bp, ↓B2_bp, BP_some, BQ_some, ↓reduceIte, L_0, L_1, L_2, L_3, L_4, L_5, L_10, L_11, L_12, L_13, L_20, L_30, L_31, L_40, L_41, L_50, L_51, L_60, L_61, i2_eq, Int.reduceEq, if_true, if_false, L_15, i2_neg, Int.reduceNeg, sa, y, te]
theorem csw_0_3 {th : Nat} {n a : Int} (s : CA M X th 7 n a [] 0) (x : Int32) : ∃ Y, cSw (some th) X (i2 3) x = some ((((x + i2 n) * i2 2) ^^^ i2 a), Y) ∧ CA M Y th 7 n a [13, 11, 10] 0 := by
  obtain ⟨Y, y, s1⟩ := ca_t4_0 s (by simp) x
  obtain ⟨sa, sb, sc, sd, se, sf⟩ := ca_rd s
  obtain ⟨ta, tb, tc, td, te, tf⟩ := ca_rd s1
  have hk : X.k th = 7 := s.2.2.1.1
  refine ⟨Y, ?_, by simpa using s1⟩
  unfold cSw
  simp -dsimp (disch := omega) only [↓B1_bp, ↓B2_bp, BP_some, BQ_some, ↓reduceIte, L_0, L_1, L_2, L_3, L_4, L_5, L_10, L_11, L_12, L_13, L_20, L_30, L_31, L_40, L_41, L_50, L_51, L_60, L_61, i2_eq, Int.reduceEq, if_true, if_false, L_15, i2_neg, Int.reduceNeg, hk, Nat.reduceEqDiff, sc, y, tf]
theorem msw_0_3 {Y : Mm} {n a : Int} (s : RA M Y 0 n a [] 0) (x : Int32) : ∃ Z, mSw 164 Y (i2 3) x = some ((((x + i2 n) * i2 2) ^^^ i2 a), Z) ∧ RA M Z 0 n a [13, 11, 10] 0 := by
  obtain ⟨Z, y, s1⟩ := ra_t_0 s (by simp) x
  obtain ⟨sa, sb, sc, sd, se⟩ := ra_rd s
  obtain ⟨ta, tb, tc, td, te⟩ := ra_rd s1
  refine ⟨Z, ?_, by simpa using s1⟩
  unfold mSw
  simp -dsimp (disch := omega) only [↓B1_bp, ↓B2_bp, BP_some, BQ_some, ↓reduceIte, L_0, L_1, L_2, L_3, L_4, L_5, L_10, L_11, L_12, L_13, L_20, L_30, L_31, L_40, L_41, L_50, L_51, L_60, L_61, i2_eq, Int.reduceEq, if_true, if_false, L_15, i2_neg, Int.reduceNeg, sa, y, te]
theorem csw_1_0 {th : Nat} {n a : Int} (s : CA M X th 8 n a [] 0) (x : Int32) : ∃ Y, cSw (some th) X (i2 0) x = some ((x + i2 n), Y) ∧ CA M Y th 8 n a [10] 0 := by
  obtain ⟨Y, y, s1⟩ := ca_r4_1 s (by simp) x
  obtain ⟨sa, sb, sc, sd, se, sf⟩ := ca_rd s
  obtain ⟨ta, tb, tc, td, te, tf⟩ := ca_rd s1
  have hk : X.k th = 8 := s.2.2.1.1
  refine ⟨Y, ?_, by simpa using s1⟩
  unfold cSw
  simp -dsimp (disch := omega) only [↓B1_bp, ↓B2_bp, BP_some, BQ_some, ↓reduceIte, L_0, L_1, L_2, L_3, L_4, L_5, L_10, L_11, L_12, L_13, L_20, L_30, L_31, L_40, L_41, L_50, L_51, L_60, L_61, i2_eq, Int.reduceEq, if_true, if_false, L_15, i2_neg, Int.reduceNeg, hk, Nat.reduceEqDiff, sc, y, tf]
theorem msw_1_0 {Y : Mm} {n a : Int} (s : RA M Y 1 n a [] 0) (x : Int32) : ∃ Z, mSw 164 Y (i2 0) x = some ((x + i2 n), Z) ∧ RA M Z 1 n a [10] 0 := by
  obtain ⟨Z, y, s1⟩ := ra_r_1 s (by simp) x
  obtain ⟨sa, sb, sc, sd, se⟩ := ra_rd s
  obtain ⟨ta, tb, tc, td, te⟩ := ra_rd s1
  refine ⟨Z, ?_, by simpa using s1⟩
  unfold mSw
  simp -dsimp (disch := omega) only [↓B1_bp, ↓B2_bp, BP_some, BQ_some, ↓reduceIte, L_0, L_1, L_2, L_3, L_4, L_5, L_10, L_11, L_12, L_13, L_20, L_30, L_31, L_40, L_41, L_50, L_51, L_60, L_61, i2_eq, Int.reduceEq, if_true, if_false, L_15, i2_neg, Int.reduceNeg, sa, y, te]
theorem csw_1_1 {th : Nat} {n a : Int} (s : CA M X th 8 n a [] 0) (x : Int32) : ∃ Y, cSw (some th) X (i2 1) x = some (((x + i2 n) * i2 2 - i2 a), Y) ∧ CA M Y th 8 n a [20, 11, 10] 0 := by
  obtain ⟨Y, y, s1⟩ := ca_d5_1 s (by simp) x
  obtain ⟨sa, sb, sc, sd, se, sf⟩ := ca_rd s
  obtain ⟨ta, tb, tc, td, te, tf⟩ := ca_rd s1
  have hk : X.k th = 8 := s.2.2.1.1
  refine ⟨Y, ?_, by simpa using s1⟩
  unfold cSw
  simp -dsimp (disch := omega) only [↓B1_bp, ↓B2_bp, BP_some, BQ_some, ↓reduceIte, L_0, L_1, L_2, L_3, L_4, L_5, L_10, L_11, L_12, L_13, L_20, L_30, L_31, L_40, L_41, L_50, L_51, L_60, L_61, i2_eq, Int.reduceEq, if_true, if_false, L_15, i2_neg, Int.reduceNeg, hk, Nat.reduceEqDiff, sc, y, tf]
theorem msw_1_1 {Y : Mm} {n a : Int} (s : RA M Y 1 n a [] 0) (x : Int32) : ∃ Z, mSw 164 Y (i2 1) x = some (((x + i2 n) * i2 2 - i2 a), Z) ∧ RA M Z 1 n a [20, 11, 10] 0 := by
  obtain ⟨Z, y, s1⟩ := ra_d_1 s (by simp) x
  obtain ⟨sa, sb, sc, sd, se⟩ := ra_rd s
  obtain ⟨ta, tb, tc, td, te⟩ := ra_rd s1
  refine ⟨Z, ?_, by simpa using s1⟩
  unfold mSw
  simp -dsimp (disch := omega) only [↓B1_bp, ↓B2_bp, BP_some, BQ_some, ↓reduceIte, L_0, L_1, L_2, L_3, L_4, L_5, L_10, L_11, L_12, L_13, L_20, L_30, L_31, L_40, L_41, L_50, L_51, L_60, L_61, i2_eq, Int.reduceEq, if_true, if_false, L_15, i2_neg, Int.reduceNeg, sa, y, te]
theorem csw_1_2_p {th : Nat} {n a : Int} (s : CA M X th 8 n a [] 0) (hz : (i2 a - i2 n = i2 0) = True) (x : Int32) : ∃ Y, cSw (some th) X (i2 2) x = some (i2 (-15), Y) ∧ CA M Y th 8 n a [12] 1 := by
  obtain ⟨Y, y, s1⟩ := ca_h4_1_p s hz (by simp) x
  obtain ⟨sa, sb, sc, sd, se, sf⟩ := ca_rd s
  obtain ⟨ta, tb, tc, td, te, tf⟩ := ca_rd s1
  have hk : X.k th = 8 := s.2.2.1.1
  refine ⟨Y, ?_, by simpa using s1⟩
  unfold cSw
  simp -dsimp (disch := omega) only [↓B1_bp, ↓B2_bp, BP_some, BQ_some, ↓reduceIte, L_0, L_1, L_2, L_3, L_4, L_5, L_10, L_11, L_12, L_13, L_20, L_30, L_31, L_40, L_41, L_50, L_51, L_60, L_61, i2_eq, Int.reduceEq, if_true, if_false, L_15, i2_neg, Int.reduceNeg, hk, Nat.reduceEqDiff, sc, y, tf]
theorem msw_1_2_p {Y : Mm} {n a : Int} (s : RA M Y 1 n a [] 0) (hz : (i2 a = i2 n) = True) (x : Int32) : ∃ Z, mSw 164 Y (i2 2) x = some (i2 (-15), Z) ∧ RA M Z 1 n a [12] 1 := by
  obtain ⟨Z, y, s1⟩ := ra_h_1_p s hz (by simp) x
  obtain ⟨sa, sb, sc, sd, se⟩ := ra_rd s
  obtain ⟨ta, tb, tc, td, te⟩ := ra_rd s1
  refine ⟨Z, ?_, by simpa using s1⟩
  unfold mSw
  simp -dsimp (disch := omega) only [↓B1_bp, ↓B2_bp, BP_some, BQ_some, ↓reduceIte, L_0, L_1, L_2, L_3, L_4, L_5, L_10, L_11, L_12, L_13, L_20, L_30, L_31, L_40, L_41, L_50, L_51, L_60, L_61, i2_eq, Int.reduceEq, if_true, if_false, L_15, i2_neg, Int.reduceNeg, sa, y, te]
theorem csw_1_2_q {th : Nat} {n a : Int} (s : CA M X th 8 n a [] 0) (hz : (i2 a - i2 n = i2 0) = False) (x : Int32) : ∃ Y, cSw (some th) X (i2 2) x = some ((x / (i2 a - i2 n)), Y) ∧ CA M Y th 8 n a [12] 0 := by
  obtain ⟨Y, y, s1⟩ := ca_h4_1_q s hz (by simp) x
  obtain ⟨sa, sb, sc, sd, se, sf⟩ := ca_rd s
  obtain ⟨ta, tb, tc, td, te, tf⟩ := ca_rd s1
  have hk : X.k th = 8 := s.2.2.1.1
  refine ⟨Y, ?_, by simpa using s1⟩
  unfold cSw
  simp -dsimp (disch := omega) only [↓B1_bp, ↓B2_bp, BP_some, BQ_some, ↓reduceIte, L_0, L_1, L_2, L_3, L_4, L_5, L_10, L_11, L_12, L_13, L_20, L_30, L_31, L_40, L_41, L_50, L_51, L_60, L_61, i2_eq, Int.reduceEq, if_true, if_false, L_15, i2_neg, Int.reduceNeg, hk, Nat.reduceEqDiff, sc, y, tf]
theorem msw_1_2_q {Y : Mm} {n a : Int} (s : RA M Y 1 n a [] 0) (hz : (i2 a = i2 n) = False) (nz : nzI (i2 a - i2 n) = some ()) (x : Int32) : ∃ Z, mSw 164 Y (i2 2) x = some ((x / (i2 a - i2 n)), Z) ∧ RA M Z 1 n a [12] 0 := by
  obtain ⟨Z, y, s1⟩ := ra_h_1_q s hz nz (by simp) x
  obtain ⟨sa, sb, sc, sd, se⟩ := ra_rd s
  obtain ⟨ta, tb, tc, td, te⟩ := ra_rd s1
  refine ⟨Z, ?_, by simpa using s1⟩
  unfold mSw
  simp -dsimp (disch := omega) only [↓B1_bp, ↓B2_bp, BP_some, BQ_some, ↓reduceIte, L_0, L_1, L_2, L_3, L_4, L_5, L_10, L_11, L_12, L_13, L_20, L_30, L_31, L_40, L_41, L_50, L_51, L_60, L_61, i2_eq, Int.reduceEq, if_true, if_false, L_15, i2_neg, Int.reduceNeg, sa, y, te]
theorem csw_1_3 {th : Nat} {n a : Int} (s : CA M X th 8 n a [] 0) (x : Int32) : ∃ Y, cSw (some th) X (i2 3) x = some ((((x + i2 n) * i2 2 - i2 a) ^^^ i2 a), Y) ∧ CA M Y th 8 n a [13, 20, 11, 10] 0 := by
  obtain ⟨Y, y, s1⟩ := ca_t4_1 s (by simp) x
  obtain ⟨sa, sb, sc, sd, se, sf⟩ := ca_rd s
  obtain ⟨ta, tb, tc, td, te, tf⟩ := ca_rd s1
  have hk : X.k th = 8 := s.2.2.1.1
  refine ⟨Y, ?_, by simpa using s1⟩
  unfold cSw
  simp -dsimp (disch := omega) only [↓B1_bp, ↓B2_bp, BP_some, BQ_some, ↓reduceIte, L_0, L_1, L_2, L_3, L_4, L_5, L_10, L_11, L_12, L_13, L_20, L_30, L_31, L_40, L_41, L_50, L_51, L_60, L_61, i2_eq, Int.reduceEq, if_true, if_false, L_15, i2_neg, Int.reduceNeg, hk, Nat.reduceEqDiff, sc, y, tf]
theorem msw_1_3 {Y : Mm} {n a : Int} (s : RA M Y 1 n a [] 0) (x : Int32) : ∃ Z, mSw 164 Y (i2 3) x = some ((((x + i2 n) * i2 2 - i2 a) ^^^ i2 a), Z) ∧ RA M Z 1 n a [13, 20, 11, 10] 0 := by
  obtain ⟨Z, y, s1⟩ := ra_t_1 s (by simp) x
  obtain ⟨sa, sb, sc, sd, se⟩ := ra_rd s
  obtain ⟨ta, tb, tc, td, te⟩ := ra_rd s1
  refine ⟨Z, ?_, by simpa using s1⟩
  unfold mSw
  simp -dsimp (disch := omega) only [↓B1_bp, ↓B2_bp, BP_some, BQ_some, ↓reduceIte, L_0, L_1, L_2, L_3, L_4, L_5, L_10, L_11, L_12, L_13, L_20, L_30, L_31, L_40, L_41, L_50, L_51, L_60, L_61, i2_eq, Int.reduceEq, if_true, if_false, L_15, i2_neg, Int.reduceNeg, sa, y, te]
theorem csw_2_0 {th : Nat} {n a : Int} (s : CA M X th 12 n a [] 0) (x : Int32) : ∃ Y, cSw (some th) X (i2 0) x = some (((x + i2 n) * i2 3), Y) ∧ CA M Y th 12 n a [30, 10] 0 := by
  obtain ⟨Y, y, s1⟩ := ca_r9_2 s (by simp) x
  obtain ⟨sa, sb, sc, sd, se, sf⟩ := ca_rd s
  obtain ⟨ta, tb, tc, td, te, tf⟩ := ca_rd s1
  have hk : X.k th = 12 := s.2.2.1.1
  refine ⟨Y, ?_, by simpa using s1⟩
  unfold cSw
  simp -dsimp (disch := omega) only [↓B1_bp, ↓B2_bp, BP_some, BQ_some, ↓reduceIte, L_0, L_1, L_2, L_3, L_4, L_5, L_10, L_11, L_12, L_13, L_20, L_30, L_31, L_40, L_41, L_50, L_51, L_60, L_61, i2_eq, Int.reduceEq, if_true, if_false, L_15, i2_neg, Int.reduceNeg, hk, Nat.reduceEqDiff, sc, y, tf]
theorem msw_2_0 {Y : Mm} {n a : Int} (s : RA M Y 2 n a [] 0) (x : Int32) : ∃ Z, mSw 164 Y (i2 0) x = some (((x + i2 n) * i2 3), Z) ∧ RA M Z 2 n a [30, 10] 0 := by
  obtain ⟨Z, y, s1⟩ := ra_r_2 s (by simp) x
  obtain ⟨sa, sb, sc, sd, se⟩ := ra_rd s
  obtain ⟨ta, tb, tc, td, te⟩ := ra_rd s1
  refine ⟨Z, ?_, by simpa using s1⟩
  unfold mSw
  simp -dsimp (disch := omega) only [↓B1_bp, ↓B2_bp, BP_some, BQ_some, ↓reduceIte, L_0, L_1, L_2, L_3, L_4, L_5, L_10, L_11, L_12, L_13, L_20, L_30, L_31, L_40, L_41, L_50, L_51, L_60, L_61, i2_eq, Int.reduceEq, if_true, if_false, L_15, i2_neg, Int.reduceNeg, sa, y, te]
theorem csw_2_1 {th : Nat} {n a : Int} (s : CA M X th 12 n a [] 0) (x : Int32) : ∃ Y, cSw (some th) X (i2 1) x = some ((((x + i2 n) * i2 3) * i2 2), Y) ∧ CA M Y th 12 n a [11, 30, 10] 0 := by
  obtain ⟨Y, y, s1⟩ := ca_d4_2 s (by simp) x
  obtain ⟨sa, sb, sc, sd, se, sf⟩ := ca_rd s
  obtain ⟨ta, tb, tc, td, te, tf⟩ := ca_rd s1
  have hk : X.k th = 12 := s.2.2.1.1
  refine ⟨Y, ?_, by simpa using s1⟩
  unfold cSw
  simp -dsimp (disch := omega) only [↓B1_bp, ↓B2_bp, BP_some, BQ_some, ↓reduceIte, L_0, L_1, L_2, L_3, L_4, L_5, L_10, L_11, L_12, L_13, L_20, L_30, L_31, L_40, L_41, L_50, L_51, L_60, L_61, i2_eq, Int.reduceEq, if_true, if_false, L_15, i2_neg, Int.reduceNeg, hk, Nat.reduceEqDiff, sc, y, tf]
theorem msw_2_1 {Y : Mm} {n a : Int} (s : RA M Y 2 n a [] 0) (x : Int32) : ∃ Z, mSw 164 Y (i2 1) x = some ((((x + i2 n) * i2 3) * i2 2), Z) ∧ RA M Z 2 n a [11, 30, 10] 0 := by
  obtain ⟨Z, y, s1⟩ := ra_d_2 s (by simp) x
  obtain ⟨sa, sb, sc, sd, se⟩ := ra_rd s
  obtain ⟨ta, tb, tc, td, te⟩ := ra_rd s1
  refine ⟨Z, ?_, by simpa using s1⟩
  unfold mSw
  simp -dsimp (disch := omega) only [↓B1_bp, ↓B2_bp, BP_some, BQ_some, ↓reduceIte, L_0, L_1, L_2, L_3, L_4, L_5, L_10, L_11, L_12, L_13, L_20, L_30, L_31, L_40, L_41, L_50, L_51, L_60, L_61, i2_eq, Int.reduceEq, if_true, if_false, L_15, i2_neg, Int.reduceNeg, sa, y, te]
theorem csw_2_2_p {th : Nat} {n a : Int} (s : CA M X th 12 n a [] 0) (hz : (i2 a - i2 n = i2 0) = True) (x : Int32) : ∃ Y, cSw (some th) X (i2 2) x = some (i2 (-15), Y) ∧ CA M Y th 12 n a [12] 1 := by
  obtain ⟨Y, y, s1⟩ := ca_h4_2_p s hz (by simp) x
  obtain ⟨sa, sb, sc, sd, se, sf⟩ := ca_rd s
  obtain ⟨ta, tb, tc, td, te, tf⟩ := ca_rd s1
  have hk : X.k th = 12 := s.2.2.1.1
  refine ⟨Y, ?_, by simpa using s1⟩
  unfold cSw
  simp -dsimp (disch := omega) only [↓B1_bp, ↓B2_bp, BP_some, BQ_some, ↓reduceIte, L_0, L_1, L_2, L_3, L_4, L_5, L_10, L_11, L_12, L_13, L_20, L_30, L_31, L_40, L_41, L_50, L_51, L_60, L_61, i2_eq, Int.reduceEq, if_true, if_false, L_15, i2_neg, Int.reduceNeg, hk, Nat.reduceEqDiff, sc, y, tf]
theorem msw_2_2_p {Y : Mm} {n a : Int} (s : RA M Y 2 n a [] 0) (hz : (i2 a = i2 n) = True) (x : Int32) : ∃ Z, mSw 164 Y (i2 2) x = some (i2 (-15), Z) ∧ RA M Z 2 n a [12] 1 := by
  obtain ⟨Z, y, s1⟩ := ra_h_2_p s hz (by simp) x
  obtain ⟨sa, sb, sc, sd, se⟩ := ra_rd s
  obtain ⟨ta, tb, tc, td, te⟩ := ra_rd s1
  refine ⟨Z, ?_, by simpa using s1⟩
  unfold mSw
  simp -dsimp (disch := omega) only [↓B1_bp, ↓B2_bp, BP_some, BQ_some, ↓reduceIte, L_0, L_1, L_2, L_3, L_4, L_5, L_10, L_11, L_12, L_13, L_20, L_30, L_31, L_40, L_41, L_50, L_51, L_60, L_61, i2_eq, Int.reduceEq, if_true, if_false, L_15, i2_neg, Int.reduceNeg, sa, y, te]
theorem csw_2_2_q {th : Nat} {n a : Int} (s : CA M X th 12 n a [] 0) (hz : (i2 a - i2 n = i2 0) = False) (x : Int32) : ∃ Y, cSw (some th) X (i2 2) x = some ((x / (i2 a - i2 n)), Y) ∧ CA M Y th 12 n a [12] 0 := by
  obtain ⟨Y, y, s1⟩ := ca_h4_2_q s hz (by simp) x
  obtain ⟨sa, sb, sc, sd, se, sf⟩ := ca_rd s
  obtain ⟨ta, tb, tc, td, te, tf⟩ := ca_rd s1
  have hk : X.k th = 12 := s.2.2.1.1
  refine ⟨Y, ?_, by simpa using s1⟩
  unfold cSw
  simp -dsimp (disch := omega) only [↓B1_bp, ↓B2_bp, BP_some, BQ_some, ↓reduceIte, L_0, L_1, L_2, L_3, L_4, L_5, L_10, L_11, L_12, L_13, L_20, L_30, L_31, L_40, L_41, L_50, L_51, L_60, L_61, i2_eq, Int.reduceEq, if_true, if_false, L_15, i2_neg, Int.reduceNeg, hk, Nat.reduceEqDiff, sc, y, tf]
theorem msw_2_2_q {Y : Mm} {n a : Int} (s : RA M Y 2 n a [] 0) (hz : (i2 a = i2 n) = False) (nz : nzI (i2 a - i2 n) = some ()) (x : Int32) : ∃ Z, mSw 164 Y (i2 2) x = some ((x / (i2 a - i2 n)), Z) ∧ RA M Z 2 n a [12] 0 := by
  obtain ⟨Z, y, s1⟩ := ra_h_2_q s hz nz (by simp) x
  obtain ⟨sa, sb, sc, sd, se⟩ := ra_rd s
  obtain ⟨ta, tb, tc, td, te⟩ := ra_rd s1
  refine ⟨Z, ?_, by simpa using s1⟩
  unfold mSw
  simp -dsimp (disch := omega) only [↓B1_bp, ↓B2_bp, BP_some, BQ_some, ↓reduceIte, L_0, L_1, L_2, L_3, L_4, L_5, L_10, L_11, L_12, L_13, L_20, L_30, L_31, L_40, L_41, L_50, L_51, L_60, L_61, i2_eq, Int.reduceEq, if_true, if_false, L_15, i2_neg, Int.reduceNeg, sa, y, te]
theorem csw_2_3_p {th : Nat} {n a : Int} (s : CA M X th 12 n a [] 0) (hz : (i2 a - i2 n = i2 0) = True) (x : Int32) : ∃ Y, cSw (some th) X (i2 3) x = some (i2 (-15), Y) ∧ CA M Y th 12 n a [31, 13, 11, 30, 10, 12] 1 := by
  obtain ⟨Y, y, s1⟩ := ca_t9_2_p s hz (by simp) x
  obtain ⟨sa, sb, sc, sd, se, sf⟩ := ca_rd s
  obtain ⟨ta, tb, tc, td, te, tf⟩ := ca_rd s1
  have hk : X.k th = 12 := s.2.2.1.1
  refine ⟨Y, ?_, by simpa using s1⟩
  unfold cSw
  simp -dsimp (disch := omega) only [↓B1_bp, ↓B2_bp, BP_some, BQ_some, ↓reduceIte, L_0, L_1, L_2, L_3, L_4, L_5, L_10, L_11, L_12, L_13, L_20, L_30, L_31, L_40, L_41, L_50, L_51, L_60, L_61, i2_eq, Int.reduceEq, if_true, if_false, L_15, i2_neg, Int.reduceNeg, hk, Nat.reduceEqDiff, sc, y, tf]
theorem msw_2_3_p {Y : Mm} {n a : Int} (s : RA M Y 2 n a [] 0) (hz : (i2 a = i2 n) = True) (x : Int32) : ∃ Z, mSw 164 Y (i2 3) x = some (i2 (-15), Z) ∧ RA M Z 2 n a [31, 13, 11, 30, 10, 12] 1 := by
  obtain ⟨Z, y, s1⟩ := ra_t_2_p s hz (by simp) x
  obtain ⟨sa, sb, sc, sd, se⟩ := ra_rd s
  obtain ⟨ta, tb, tc, td, te⟩ := ra_rd s1
  refine ⟨Z, ?_, by simpa using s1⟩
  unfold mSw
  simp -dsimp (disch := omega) only [↓B1_bp, ↓B2_bp, BP_some, BQ_some, ↓reduceIte, L_0, L_1, L_2, L_3, L_4, L_5, L_10, L_11, L_12, L_13, L_20, L_30, L_31, L_40, L_41, L_50, L_51, L_60, L_61, i2_eq, Int.reduceEq, if_true, if_false, L_15, i2_neg, Int.reduceNeg, sa, y, te]
theorem csw_2_3_q {th : Nat} {n a : Int} (s : CA M X th 12 n a [] 0) (hz : (i2 a - i2 n = i2 0) = False) (x : Int32) : ∃ Y, cSw (some th) X (i2 3) x = some (((((x + i2 n) * i2 3) * i2 2) ^^^ i2 a) + (i2 n / (i2 a - i2 n)), Y) ∧ CA M Y th 12 n a [31, 13, 11, 30, 10, 12] 0 := by
  obtain ⟨Y, y, s1⟩ := ca_t9_2_q s hz (by simp) x
  obtain ⟨sa, sb, sc, sd, se, sf⟩ := ca_rd s
  obtain ⟨ta, tb, tc, td, te, tf⟩ := ca_rd s1
  have hk : X.k th = 12 := s.2.2.1.1
  refine ⟨Y, ?_, by simpa using s1⟩
  unfold cSw
  simp -dsimp (disch := omega) only [↓B1_bp, ↓B2_bp, BP_some, BQ_some, ↓reduceIte, L_0, L_1, L_2, L_3, L_4, L_5, L_10, L_11, L_12, L_13, L_20, L_30, L_31, L_40, L_41, L_50, L_51, L_60, L_61, i2_eq, Int.reduceEq, if_true, if_false, L_15, i2_neg, Int.reduceNeg, hk, Nat.reduceEqDiff, sc, y, tf]
theorem msw_2_3_q {Y : Mm} {n a : Int} (s : RA M Y 2 n a [] 0) (hz : (i2 a = i2 n) = False) (nz : nzI (i2 a - i2 n) = some ()) (x : Int32) : ∃ Z, mSw 164 Y (i2 3) x = some (((((x + i2 n) * i2 3) * i2 2) ^^^ i2 a) + (i2 n / (i2 a - i2 n)), Z) ∧ RA M Z 2 n a [31, 13, 11, 30, 10, 12] 0 := by
  obtain ⟨Z, y, s1⟩ := ra_t_2_q s hz nz (by simp) x
  obtain ⟨sa, sb, sc, sd, se⟩ := ra_rd s
  obtain ⟨ta, tb, tc, td, te⟩ := ra_rd s1
  refine ⟨Z, ?_, by simpa using s1⟩
  unfold mSw
  simp -dsimp (disch := omega) only [↓B1_bp, ↓B2_bp, BP_some, BQ_some, ↓reduceIte, L_0, L_1, L_2, L_3, L_4, L_5, L_10, L_11, L_12, L_13, L_20, L_30, L_31, L_40, L_41, L_50, L_51, L_60, L_61, i2_eq, Int.reduceEq, if_true, if_false, L_15, i2_neg, Int.reduceNeg, sa, y, te]
theorem csw_3_0 {th : Nat} {n a : Int} (s : CA M X th 5 n a [] 0) (x : Int32) : ∃ Y, cSw (some th) X (i2 0) x = some ((x + i2 n - i2 n), Y) ∧ CA M Y th 5 n a [51, 10] 0 := by
  obtain ⟨Y, y, s1⟩ := ca_r2_3 s (by simp) x
  obtain ⟨sa, sb, sc, sd, se, sf⟩ := ca_rd s
  obtain ⟨ta, tb, tc, td, te, tf⟩ := ca_rd s1
  have hk : X.k th = 5 := s.2.2.1.1
  refine ⟨Y, ?_, by simpa using s1⟩
  unfold cSw
  simp -dsimp (disch := omega) only [↓B1_bp, ↓B2_bp, BP_some, BQ_some, ↓reduceIte, L_0, L_1, L_2, L_3, L_4, L_5, L_10, L_11, L_12, L_13, L_20, L_30, L_31, L_40, L_41, L_50, L_51, L_60, L_61, i2_eq, Int.reduceEq, if_true, if_false, L_15, i2_neg, Int.reduceNeg, hk, Nat.reduceEqDiff, sc, y, tf]
theorem msw_3_0 {Y : Mm} {n a : Int} (s : RA M Y 3 n a [] 0) (x : Int32) : ∃ Z, mSw 164 Y (i2 0) x = some ((x + i2 n - i2 n), Z) ∧ RA M Z 3 n a [51, 10] 0 := by
  obtain ⟨Z, y, s1⟩ := ra_r_3 s (by simp) x
  obtain ⟨sa, sb, sc, sd, se⟩ := ra_rd s
  obtain ⟨ta, tb, tc, td, te⟩ := ra_rd s1
  refine ⟨Z, ?_, by simpa using s1⟩
  unfold mSw
  simp -dsimp (disch := omega) only [↓B1_bp, ↓B2_bp, BP_some, BQ_some, ↓reduceIte, L_0, L_1, L_2, L_3, L_4, L_5, L_10, L_11, L_12, L_13, L_20, L_30, L_31, L_40, L_41, L_50, L_51, L_60, L_61, i2_eq, Int.reduceEq, if_true, if_false, L_15, i2_neg, Int.reduceNeg, sa, y, te]
theorem csw_3_1 {th : Nat} {n a : Int} (s : CA M X th 5 n a [] 0) (x : Int32) : ∃ Y, cSw (some th) X (i2 1) x = some (((x + i2 n - i2 n) * i2 2 - i2 a), Y) ∧ CA M Y th 5 n a [20, 11, 51, 10] 0 := by
  obtain ⟨Y, y, s1⟩ := ca_d5_3 s (by simp) x
  obtain ⟨sa, sb, sc, sd, se, sf⟩ := ca_rd s
  obtain ⟨ta, tb, tc, td, te, tf⟩ := ca_rd s1
  have hk : X.k th = 5 := s.2.2.1.1
  refine ⟨Y, ?_, by simpa using s1⟩
  unfold cSw
  simp -dsimp (disch := omega) only [↓B1_bp, ↓B2_bp, BP_some, BQ_some, ↓reduceIte, L_0, L_1, L_2, L_3, L_4, L_5, L_10, L_11, L_12, L_13, L_20, L_30, L_31, L_40, L_41, L_50, L_51, L_60, L_61, i2_eq, Int.reduceEq, if_true, if_false, L_15, i2_neg, Int.reduceNeg, hk, Nat.reduceEqDiff, sc, y, tf]
theorem msw_3_1 {Y : Mm} {n a : Int} (s : RA M Y 3 n a [] 0) (x : Int32) : ∃ Z, mSw 164 Y (i2 1) x = some (((x + i2 n - i2 n) * i2 2 - i2 a), Z) ∧ RA M Z 3 n a [20, 11, 51, 10] 0 := by
  obtain ⟨Z, y, s1⟩ := ra_d_3 s (by simp) x
  obtain ⟨sa, sb, sc, sd, se⟩ := ra_rd s
  obtain ⟨ta, tb, tc, td, te⟩ := ra_rd s1
  refine ⟨Z, ?_, by simpa using s1⟩
  unfold mSw
  simp -dsimp (disch := omega) only [↓B1_bp, ↓B2_bp, BP_some, BQ_some, ↓reduceIte, L_0, L_1, L_2, L_3, L_4, L_5, L_10, L_11, L_12, L_13, L_20, L_30, L_31, L_40, L_41, L_50, L_51, L_60, L_61, i2_eq, Int.reduceEq, if_true, if_false, L_15, i2_neg, Int.reduceNeg, sa, y, te]
theorem csw_3_2_p {th : Nat} {n a : Int} (s : CA M X th 5 n a [] 0) (hz : (i2 a - i2 n = i2 0) = True) (x : Int32) : ∃ Y, cSw (some th) X (i2 2) x = some (i2 (-15), Y) ∧ CA M Y th 5 n a [50, 12] 1 := by
  obtain ⟨Y, y, s1⟩ := ca_h2_3_p s hz (by simp) x
  obtain ⟨sa, sb, sc, sd, se, sf⟩ := ca_rd s
  obtain ⟨ta, tb, tc, td, te, tf⟩ := ca_rd s1
  have hk : X.k th = 5 := s.2.2.1.1
  refine ⟨Y, ?_, by simpa using s1⟩
  unfold cSw
  simp -dsimp (disch := omega) only [↓B1_bp, ↓B2_bp, BP_some, BQ_some, ↓reduceIte, L_0, L_1, L_2, L_3, L_4, L_5, L_10, L_11, L_12, L_13, L_20, L_30, L_31, L_40, L_41, L_50, L_51, L_60, L_61, i2_eq, Int.reduceEq, if_true, if_false, L_15, i2_neg, Int.reduceNeg, hk, Nat.reduceEqDiff, sc, y, tf]
theorem msw_3_2_p {Y : Mm} {n a : Int} (s : RA M Y 3 n a [] 0) (hz : (i2 a = i2 n) = True) (x : Int32) : ∃ Z, mSw 164 Y (i2 2) x = some (i2 (-15), Z) ∧ RA M Z 3 n a [50, 12] 1 := by
  obtain ⟨Z, y, s1⟩ := ra_h_3_p s hz (by simp) x
  obtain ⟨sa, sb, sc, sd, se⟩ := ra_rd s
  obtain ⟨ta, tb, tc, td, te⟩ := ra_rd s1
  refine ⟨Z, ?_, by simpa using s1⟩
  unfold mSw
  simp -dsimp (disch := omega) only [↓B1_bp, ↓B2_bp, BP_some, BQ_some, ↓reduceIte, L_0, L_1, L_2, L_3, L_4, L_5, L_10, L_11, L_12, L_13, L_20, L_30, L_31, L_40, L_41, L_50, L_51, L_60, L_61, i2_eq, Int.reduceEq, if_true, if_false, L_15, i2_neg, Int.reduceNeg, sa, y, te]
theorem csw_3_2_q {th : Nat} {n a : Int} (s : CA M X th 5 n a [] 0) (hz : (i2 a - i2 n = i2 0) = False) (x : Int32) : ∃ Y, cSw (some th) X (i2 2) x = some (((x + i2 2) / (i2 a - i2 n) ^^^ i2 1), Y) ∧ CA M Y th 5 n a [50, 12] 0 := by
  obtain ⟨Y, y, s1⟩ := ca_h2_3_q s hz (by simp) x
  obtain ⟨sa, sb, sc, sd, se, sf⟩ := ca_rd s
  obtain ⟨ta, tb, tc, td, te, tf⟩ := ca_rd s1
  have hk : X.k th = 5 := s.2.2.1.1
  refine ⟨Y, ?_, by simpa using s1⟩
  unfold cSw
  simp -dsimp (disch := omega) only [↓B1_bp, ↓B2_bp, BP_some, BQ_some, ↓reduceIte, L_0, L_1, L_2, L_3, L_4, L_5, L_10, L_11, L_12, L_13, L_20, L_30, L_31, L_40, L_41, L_50, L_51, L_60, L_61, i2_eq, Int.reduceEq, if_true, if_false, L_15, i2_neg, Int.reduceNeg, hk, Nat.reduceEqDiff, sc, y, tf]
theorem msw_3_2_q {Y : Mm} {n a : Int} (s : RA M Y 3 n a [] 0) (hz : (i2 a = i2 n) = False) (nz : nzI (i2 a - i2 n) = some ()) (x : Int32) : ∃ Z, mSw 164 Y (i2 2) x = some (((x + i2 2) / (i2 a - i2 n) ^^^ i2 1), Z) ∧ RA M Z 3 n a [50, 12] 0 := by
  obtain ⟨Z, y, s1⟩ := ra_h_3_q s hz nz (by simp) x
  obtain ⟨sa, sb, sc, sd, se⟩ := ra_rd s
  obtain ⟨ta, tb, tc, td, te⟩ := ra_rd s1
  refine ⟨Z, ?_, by simpa using s1⟩
  unfold mSw
  simp -dsimp (disch := omega) only [↓B1_bp, ↓B2_bp, BP_some, BQ_some, ↓reduceIte, L_0, L_1, L_2, L_3, L_4, L_5, L_10, L_11, L_12, L_13, L_20, L_30, L_31, L_40, L_41, L_50, L_51, L_60, L_61, i2_eq, Int.reduceEq, if_true, if_false, L_15, i2_neg, Int.reduceNeg, sa, y, te]
theorem csw_3_3 {th : Nat} {n a : Int} (s : CA M X th 5 n a [] 0) (x : Int32) : ∃ Y, cSw (some th) X (i2 3) x = some ((((x + i2 n - i2 n) * i2 2 - i2 a) ^^^ i2 a), Y) ∧ CA M Y th 5 n a [13, 20, 11, 51, 10] 0 := by
  obtain ⟨Y, y, s1⟩ := ca_t4_3 s (by simp) x
  obtain ⟨sa, sb, sc, sd, se, sf⟩ := ca_rd s
  obtain ⟨ta, tb, tc, td, te, tf⟩ := ca_rd s1
  have hk : X.k th = 5 := s.2.2.1.1
  refine ⟨Y, ?_, by simpa using s1⟩
  unfold cSw
  simp -dsimp (disch := omega) only [↓B1_bp, ↓B2_bp, BP_some, BQ_some, ↓reduceIte, L_0, L_1, L_2, L_3, L_4, L_5, L_10, L_11, L_12, L_13, L_20, L_30, L_31, L_40, L_41, L_50, L_51, L_60, L_61, i2_eq, Int.reduceEq, if_true, if_false, L_15, i2_neg, Int.reduceNeg, hk, Nat.reduceEqDiff, sc, y, tf]
theorem msw_3_3 {Y : Mm} {n a : Int} (s : RA M Y 3 n a [] 0) (x : Int32) : ∃ Z, mSw 164 Y (i2 3) x = some ((((x + i2 n - i2 n) * i2 2 - i2 a) ^^^ i2 a), Z) ∧ RA M Z 3 n a [13, 20, 11, 51, 10] 0 := by
  obtain ⟨Z, y, s1⟩ := ra_t_3 s (by simp) x
  obtain ⟨sa, sb, sc, sd, se⟩ := ra_rd s
  obtain ⟨ta, tb, tc, td, te⟩ := ra_rd s1
  refine ⟨Z, ?_, by simpa using s1⟩
  unfold mSw
  simp -dsimp (disch := omega) only [↓B1_bp, ↓B2_bp, BP_some, BQ_some, ↓reduceIte, L_0, L_1, L_2, L_3, L_4, L_5, L_10, L_11, L_12, L_13, L_20, L_30, L_31, L_40, L_41, L_50, L_51, L_60, L_61, i2_eq, Int.reduceEq, if_true, if_false, L_15, i2_neg, Int.reduceNeg, sa, y, te]
theorem csw_4_0 {th : Nat} {n a : Int} (s : CA M X th 4 n a [] 0) (x : Int32) : ∃ Y, cSw (some th) X (i2 0) x = some ((i2 0 - (x + i2 n) * i2 3), Y) ∧ CA M Y th 4 n a [40, 30, 10] 0 := by
  obtain ⟨Y, y, s1⟩ := ca_r1_4 s (by simp) x
  obtain ⟨sa, sb, sc, sd, se, sf⟩ := ca_rd s
  obtain ⟨ta, tb, tc, td, te, tf⟩ := ca_rd s1
  have hk : X.k th = 4 := s.2.2.1.1
  refine ⟨Y, ?_, by simpa using s1⟩
  unfold cSw
  simp -dsimp (disch := omega) only [↓B1_bp, ↓B2_bp, BP_some, BQ_some, ↓reduceIte, L_0, L_1, L_2, L_3, L_4, L_5, L_10, L_11, L_12, L_13, L_20, L_30, L_31, L_40, L_41, L_50, L_51, L_60, L_61, i2_eq, Int.reduceEq, if_true, if_false, L_15, i2_neg, Int.reduceNeg, hk, Nat.reduceEqDiff, sc, y, tf]
theorem msw_4_0 {Y : Mm} {n a : Int} (s : RA M Y 4 n a [] 0) (x : Int32) : ∃ Z, mSw 164 Y (i2 0) x = some ((i2 0 - (x + i2 n) * i2 3), Z) ∧ RA M Z 4 n a [40, 30, 10] 0 := by
  obtain ⟨Z, y, s1⟩ := ra_r_4 s (by simp) x
  obtain ⟨sa, sb, sc, sd, se⟩ := ra_rd s
  obtain ⟨ta, tb, tc, td, te⟩ := ra_rd s1
  refine ⟨Z, ?_, by simpa using s1⟩
  unfold mSw
  simp -dsimp (disch := omega) only [↓B1_bp, ↓B2_bp, BP_some, BQ_some, ↓reduceIte, L_0, L_1, L_2, L_3, L_4, L_5, L_10, L_11, L_12, L_13, L_20, L_30, L_31, L_40, L_41, L_50, L_51, L_60, L_61, i2_eq, Int.reduceEq, if_true, if_false, L_15, i2_neg, Int.reduceNeg, sa, y, te]
theorem csw_4_1 {th : Nat} {n a : Int} (s : CA M X th 4 n a [] 0) (x : Int32) : ∃ Y, cSw (some th) X (i2 1) x = some (((i2 0 - (x + i2 n) * i2 3) * i2 2 + (i2 0 - (i2 n + i2 n) * i2 3)), Y) ∧ CA M Y th 4 n a [41, 11, 40, 30, 10, 40, 30, 10] 0 := by
  obtain ⟨Y, y, s1⟩ := ca_d1_4 s (by simp) x
  obtain ⟨sa, sb, sc, sd, se, sf⟩ := ca_rd s
  obtain ⟨ta, tb, tc, td, te, tf⟩ := ca_rd s1
  have hk : X.k th = 4 := s.2.2.1.1
  refine ⟨Y, ?_, by simpa using s1⟩
  unfold cSw
  simp -dsimp (disch := omega) only [↓B1_bp, ↓B2_bp, BP_some, BQ_some, ↓reduceIte, L_0, L_1, L_2, L_3, L_4, L_5, L_10, L_11, L_12, L_13, L_20, L_30, L_31, L_40, L_41, L_50, L_51, L_60, L_61, i2_eq, Int.reduceEq, if_true, if_false, L_15, i2_neg, Int.reduceNeg, hk, Nat.reduceEqDiff, sc, y, tf]
theorem msw_4_1 {Y : Mm} {n a : Int} (s : RA M Y 4 n a [] 0) (x : Int32) : ∃ Z, mSw 164 Y (i2 1) x = some (((i2 0 - (x + i2 n) * i2 3) * i2 2 + (i2 0 - (i2 n + i2 n) * i2 3)), Z) ∧ RA M Z 4 n a [41, 11, 40, 30, 10, 40, 30, 10] 0 := by
  obtain ⟨Z, y, s1⟩ := ra_d_4 s (by simp) x
  obtain ⟨sa, sb, sc, sd, se⟩ := ra_rd s
  obtain ⟨ta, tb, tc, td, te⟩ := ra_rd s1
  refine ⟨Z, ?_, by simpa using s1⟩
  unfold mSw
  simp -dsimp (disch := omega) only [↓B1_bp, ↓B2_bp, BP_some, BQ_some, ↓reduceIte, L_0, L_1, L_2, L_3, L_4, L_5, L_10, L_11, L_12, L_13, L_20, L_30, L_31, L_40, L_41, L_50, L_51, L_60, L_61, i2_eq, Int.reduceEq, if_true, if_false, L_15, i2_neg, Int.reduceNeg, sa, y, te]
theorem csw_4_2_p {th : Nat} {n a : Int} (s : CA M X th 4 n a [] 0) (hz : (i2 a - i2 n = i2 0) = True) (x : Int32) : ∃ Y, cSw (some th) X (i2 2) x = some (i2 (-15), Y) ∧ CA M Y th 4 n a [12] 1 := by
  obtain ⟨Y, y, s1⟩ := ca_h4_4_p s hz (by simp) x
  obtain ⟨sa, sb, sc, sd, se, sf⟩ := ca_rd s
  obtain ⟨ta, tb, tc, td, te, tf⟩ := ca_rd s1
  have hk : X.k th = 4 := s.2.2.1.1
  refine ⟨Y, ?_, by simpa using s1⟩
  unfold cSw
  simp -dsimp (disch := omega) only [↓B1_bp, ↓B2_bp, BP_some, BQ_some, ↓reduceIte, L_0, L_1, L_2, L_3, L_4, L_5, L_10, L_11, L_12, L_13, L_20, L_30, L_31, L_40, L_41, L_50, L_51, L_60, L_61, i2_eq, Int.reduceEq, if_true, if_false, L_15, i2_neg, Int.reduceNeg, hk, Nat.reduceEqDiff, sc, y, tf]
theorem msw_4_2_p {Y : Mm} {n a : Int} (s : RA M Y 4 n a [] 0) (hz : (i2 a = i2 n) = True) (x : Int32) : ∃ Z, mSw 164 Y (i2 2) x = some (i2 (-15), Z) ∧ RA M Z 4 n a [12] 1 := by
  obtain ⟨Z, y, s1⟩ := ra_h_4_p s hz (by simp) x
  obtain ⟨sa, sb, sc, sd, se⟩ := ra_rd s
  obtain ⟨ta, tb, tc, td, te⟩ := ra_rd s1
  refine ⟨Z, ?_, by simpa using s1⟩
  unfold mSw
  simp -dsimp (disch := omega) only [↓B1_bp, ↓B2_bp, BP_some, BQ_some, ↓reduceIte, L_0, L_1, L_2, L_3, L_4, L_5, L_10, L_11, L_12, L_13, L_20, L_30, L_31, L_40, L_41, L_50, L_51, L_60, L_61, i2_eq, Int.reduceEq, if_true, if_false, L_15, i2_neg, Int.reduceNeg, sa, y, te]
theorem csw_4_2_q {th : Nat} {n a : Int} (s : CA M X th 4 n a [] 0) (hz : (i2 a - i2 n = i2 0) = False) (x : Int32) : ∃ Y, cSw (some th) X (i2 2) x = some ((x / (i2 a - i2 n)), Y) ∧ CA M Y th 4 n a [12] 0 := by
  obtain ⟨Y, y, s1⟩ := ca_h4_4_q s hz (by simp) x
  obtain ⟨sa, sb, sc, sd, se, sf⟩ := ca_rd s
  obtain ⟨ta, tb, tc, td, te, tf⟩ := ca_rd s1
  have hk : X.k th = 4 := s.2.2.1.1
  refine ⟨Y, ?_, by simpa using s1⟩
  unfold cSw
  simp -dsimp (disch := omega) only [↓B1_bp, ↓B2_bp, BP_some, BQ_some, ↓reduceIte, L_0, L_1, L_2, L_3, L_4, L_5, L_10, L_11, L_12, L_13, L_20, L_30, L_31, L_40, L_41, L_50, L_51, L_60, L_61, i2_eq, Int.reduceEq, if_true, if_false, L_15, i2_neg, Int.reduceNeg, hk, Nat.reduceEqDiff, sc, y, tf]
theorem msw_4_2_q {Y : Mm} {n a : Int} (s : RA M Y 4 n a [] 0) (hz : (i2 a = i2 n) = False) (nz : nzI (i2 a - i2 n) = some ()) (x : Int32) : ∃ Z, mSw 164 Y (i2 2) x = some ((x / (i2 a - i2 n)), Z) ∧ RA M Z 4 n a [12] 0 := by
  obtain ⟨Z, y, s1⟩ := ra_h_4_q s hz nz (by simp) x
  obtain ⟨sa, sb, sc, sd, se⟩ := ra_rd s
  obtain ⟨ta, tb, tc, td, te⟩ := ra_rd s1
  refine ⟨Z, ?_, by simpa using s1⟩
  unfold mSw
  simp -dsimp (disch := omega) only [↓B1_bp, ↓B2_bp, BP_some, BQ_some, ↓reduceIte, L_0, L_1, L_2, L_3, L_4, L_5, L_10, L_11, L_12, L_13, L_20, L_30, L_31, L_40, L_41, L_50, L_51, L_60, L_61, i2_eq, Int.reduceEq, if_true, if_false, L_15, i2_neg, Int.reduceNeg, sa, y, te]
theorem csw_4_3_p {th : Nat} {n a : Int} (s : CA M X th 4 n a [] 0) (hz : (i2 a - i2 n = i2 0) = True) (x : Int32) : ∃ Y, cSw (some th) X (i2 3) x = some (i2 (-15), Y) ∧ CA M Y th 4 n a [31, 13, 41, 11, 40, 30, 10, 40, 30, 10, 12] 1 := by
  obtain ⟨Y, y, s1⟩ := ca_t9_4_p s hz (by simp) x
  obtain ⟨sa, sb, sc, sd, se, sf⟩ := ca_rd s
  obtain ⟨ta, tb, tc, td, te, tf⟩ := ca_rd s1
  have hk : X.k th = 4 := s.2.2.1.1
  refine ⟨Y, ?_, by simpa using s1⟩
  unfold cSw
  simp -dsimp (disch := omega) only [↓B1_bp, ↓B2_bp, BP_some, BQ_some, ↓reduceIte, L_0, L_1, L_2, L_3, L_4, L_5, L_10, L_11, L_12, L_13, L_20, L_30, L_31, L_40, L_41, L_50, L_51, L_60, L_61, i2_eq, Int.reduceEq, if_true, if_false, L_15, i2_neg, Int.reduceNeg, hk, Nat.reduceEqDiff, sc, y, tf]
theorem msw_4_3_p {Y : Mm} {n a : Int} (s : RA M Y 4 n a [] 0) (hz : (i2 a = i2 n) = True) (x : Int32) : ∃ Z, mSw 164 Y (i2 3) x = some (i2 (-15), Z) ∧ RA M Z 4 n a [31, 13, 41, 11, 40, 30, 10, 40, 30, 10, 12] 1 := by
  obtain ⟨Z, y, s1⟩ := ra_t_4_p s hz (by simp) x
  obtain ⟨sa, sb, sc, sd, se⟩ := ra_rd s
  obtain ⟨ta, tb, tc, td, te⟩ := ra_rd s1
  refine ⟨Z, ?_, by simpa using s1⟩
  unfold mSw
  simp -dsimp (disch := omega) only [↓B1_bp, ↓B2_bp, BP_some, BQ_some, ↓reduceIte, L_0, L_1, L_2, L_3, L_4, L_5, L_10, L_11, L_12, L_13, L_20, L_30, L_31, L_40, L_41, L_50, L_51, L_60, L_61, i2_eq, Int.reduceEq, if_true, if_false, L_15, i2_neg, Int.reduceNeg, sa, y, te]
theorem csw_4_3_q {th : Nat} {n a : Int} (s : CA M X th 4 n a [] 0) (hz : (i2 a - i2 n = i2 0) = False) (x : Int32) : ∃ Y, cSw (some th) X (i2 3) x = some ((((i2 0 - (x + i2 n) * i2 3) * i2 2 + (i2 0 - (i2 n + i2 n) * i2 3)) ^^^ i2 a) + (i2 n / (i2 a - i2 n)), Y) ∧ CA M Y th 4 n a [31, 13, 41, 11, 40, 30, 10, 40, 30, 10, 12] 0 := by
  obtain ⟨Y, y, s1⟩ := ca_t9_4_q s hz (by simp) x
  obtain ⟨sa, sb, sc, sd, se, sf⟩ := ca_rd s
  obtain ⟨ta, tb, tc, td, te, tf⟩ := ca_rd s1
  have hk : X.k th = 4 := s.2.2.1.1
  refine ⟨Y, ?_, by simpa using s1⟩
  unfold cSw
  simp -dsimp (disch := omega) only [↓B1_bp, ↓B2_bp, BP_some, BQ_some, ↓reduceIte, L_0, L_1, L_2, L_3, L_4, L_5, L_10, L_11, L_12, L_13, L_20, L_30, L_31, L_40, L_41, L_50, L_51, L_60, L_61, i2_eq, Int.reduceEq, if_true, if_false, L_15, i2_neg, Int.reduceNeg, hk, Nat.reduceEqDiff, sc, y, tf]
theorem msw_4_3_q {Y : Mm} {n a : Int} (s : RA M Y 4 n a [] 0) (hz : (i2 a = i2 n) = False) (nz : nzI (i2 a - i2 n) = some ()) (x : Int32) : ∃ Z, mSw 164 Y (i2 3) x = some ((((i2 0 - (x + i2 n) * i2 3) * i2 2 + (i2 0 - (i2 n + i2 n) * i2 3)) ^^^ i2 a) + (i2 n / (i2 a - i2 n)), Z) ∧ RA M Z 4 n a [31, 13, 41, 11, 40, 30, 10, 40, 30, 10, 12] 0 := by
  obtain ⟨Z, y, s1⟩ := ra_t_4_q s hz nz (by simp) x
  obtain ⟨sa, sb, sc, sd, se⟩ := ra_rd s
  obtain ⟨ta, tb, tc, td, te⟩ := ra_rd s1
  refine ⟨Z, ?_, by simpa using s1⟩
  unfold mSw
  simp -dsimp (disch := omega) only [↓B1_bp, ↓B2_bp, BP_some, BQ_some, ↓reduceIte, L_0, L_1, L_2, L_3, L_4, L_5, L_10, L_11, L_12, L_13, L_20, L_30, L_31, L_40, L_41, L_50, L_51, L_60, L_61, i2_eq, Int.reduceEq, if_true, if_false, L_15, i2_neg, Int.reduceNeg, sa, y, te]
theorem csw_5_0 {th : Nat} {n a : Int} (s : CA M X th 6 n a [] 0) (x : Int32) : ∃ Y, cSw (some th) X (i2 0) x = some ((x + i2 n), Y) ∧ CA M Y th 6 n a [10] 0 := by
  obtain ⟨Y, y, s1⟩ := ca_r4_5 s (by simp) x
  obtain ⟨sa, sb, sc, sd, se, sf⟩ := ca_rd s
  obtain ⟨ta, tb, tc, td, te, tf⟩ := ca_rd s1
  have hk : X.k th = 6 := s.2.2.1.1
  refine ⟨Y, ?_, by simpa using s1⟩
  unfold cSw
  simp -dsimp (disch := omega) only [↓B1_bp, ↓B2_bp, BP_some, BQ_some, ↓reduceIte, L_0, L_1, L_2, L_3, L_4, L_5, L_10, L_11, L_12, L_13, L_20, L_30, L_31, L_40, L_41, L_50, L_51, L_60, L_61, i2_eq, Int.reduceEq, if_true, if_false, L_15, i2_neg, Int.reduceNeg, hk, Nat.reduceEqDiff, sc, y, tf]
theorem msw_5_0 {Y : Mm} {n a : Int} (s : RA M Y 5 n a [] 0) (x : Int32) : ∃ Z, mSw 164 Y (i2 0) x = some ((x + i2 n), Z) ∧ RA M Z 5 n a [10] 0 := by
  obtain ⟨Z, y, s1⟩ := ra_r_5 s (by simp) x
  obtain ⟨sa, sb, sc, sd, se⟩ := ra_rd s
  obtain ⟨ta, tb, tc, td, te⟩ := ra_rd s1
  refine ⟨Z, ?_, by simpa using s1⟩
  unfold mSw
  simp -dsimp (disch := omega) only [↓B1_bp, ↓B2_bp, BP_some, BQ_some, ↓reduceIte, L_0, L_1, L_2, L_3, L_4, L_5, L_10, L_11, L_12, L_13, L_20, L_30, L_31, L_40, L_41, L_50, L_51, L_60, L_61, i2_eq, Int.reduceEq, if_true, if_false, L_15, i2_neg, Int.reduceNeg, sa, y, te]
theorem csw_5_1 {th : Nat} {n a : Int} (s : CA M X th 6 n a [] 0) (x : Int32) : ∃ Y, cSw (some th) X (i2 1) x = some (((x + i2 n) * i2 2), Y) ∧ CA M Y th 6 n a [11, 10] 0 := by
  obtain ⟨Y, y, s1⟩ := ca_d4_5 s (by simp) x
  obtain ⟨sa, sb, sc, sd, se, sf⟩ := ca_rd s
  obtain ⟨ta, tb, tc, td, te, tf⟩ := ca_rd s1
  have hk : X.k th = 6 := s.2.2.1.1
  refine ⟨Y, ?_, by simpa using s1⟩
  unfold cSw
  simp -dsimp (disch := omega) only [↓B1_bp, ↓B2_bp, BP_some, BQ_some, ↓reduceIte, L_0, L_1, L_2, L_3, L_4, L_5, L_10, L_11, L_12, L_13, L_20, L_30, L_31, L_40, L_41, L_50, L_51, L_60, L_61, i2_eq, Int.reduceEq, if_true, if_false, L_15, i2_neg, Int.reduceNeg, hk, Nat.reduceEqDiff, sc, y, tf]
theorem msw_5_1 {Y : Mm} {n a : Int} (s : RA M Y 5 n a [] 0) (x : Int32) : ∃ Z, mSw 164 Y (i2 1) x = some (((x + i2 n) * i2 2), Z) ∧ RA M Z 5 n a [11, 10] 0 := by
  obtain ⟨Z, y, s1⟩ := ra_d_5 s (by simp) x
  obtain ⟨sa, sb, sc, sd, se⟩ := ra_rd s
  obtain ⟨ta, tb, tc, td, te⟩ := ra_rd s1
  refine ⟨Z, ?_, by simpa using s1⟩
  unfold mSw
  simp -dsimp (disch := omega) only [↓B1_bp, ↓B2_bp, BP_some, BQ_some, ↓reduceIte, L_0, L_1, L_2, L_3, L_4, L_5, L_10, L_11, L_12, L_13, L_20, L_30, L_31, L_40, L_41, L_50, L_51, L_60, L_61, i2_eq, Int.reduceEq, if_true, if_false, L_15, i2_neg, Int.reduceNeg, sa, y, te]
theorem csw_5_2_p {th : Nat} {n a : Int} (s : CA M X th 6 n a [] 0) (hz : (i2 a - i2 n = i2 0) = True) (x : Int32) : ∃ Y, cSw (some th) X (i2 2) x = some (i2 (-15), Y) ∧ CA M Y th 6 n a [61, 12] 1 := by
  obtain ⟨Y, y, s1⟩ := ca_h3_5_p s hz (by simp) x
  obtain ⟨sa, sb, sc, sd, se, sf⟩ := ca_rd s
  obtain ⟨ta, tb, tc, td, te, tf⟩ := ca_rd s1
  have hk : X.k th = 6 := s.2.2.1.1
  refine ⟨Y, ?_, by simpa using s1⟩
  unfold cSw
  simp -dsimp (disch := omega) only [↓B1_bp, ↓B2_bp, BP_some, BQ_some, ↓reduceIte, L_0, L_1, L_2, L_3, L_4, L_5, L_10, L_11, L_12, L_13, L_20, L_30, L_31, L_40, L_41, L_50, L_51, L_60, L_61, i2_eq, Int.reduceEq, if_true, if_false, L_15, i2_neg, Int.reduceNeg, hk, Nat.reduceEqDiff, sc, y, tf]
theorem msw_5_2_p {Y : Mm} {n a : Int} (s : RA M Y 5 n a [] 0) (hz : (i2 a = i2 n) = True) (x : Int32) : ∃ Z, mSw 164 Y (i2 2) x = some (i2 (-15), Z) ∧ RA M Z 5 n a [61, 12] 1 := by
  obtain ⟨Z, y, s1⟩ := ra_h_5_p s hz (by simp) x
  obtain ⟨sa, sb, sc, sd, se⟩ := ra_rd s
  obtain ⟨ta, tb, tc, td, te⟩ := ra_rd s1
  refine ⟨Z, ?_, by simpa using s1⟩
  unfold mSw
  simp -dsimp (disch := omega) only [↓B1_bp, ↓B2_bp, BP_some, BQ_some, ↓reduceIte, L_0, L_1, L_2, L_3, L_4, L_5, L_10, L_11, L_12, L_13, L_20, L_30, L_31, L_40, L_41, L_50, L_51, L_60, L_61, i2_eq, Int.reduceEq, if_true, if_false, L_15, i2_neg, Int.reduceNeg, sa, y, te]
theorem csw_5_2_q {th : Nat} {n a : Int} (s : CA M X th 6 n a [] 0) (hz : (i2 a - i2 n = i2 0) = False) (x : Int32) : ∃ Y, cSw (some th) X (i2 2) x = some ((x / (i2 a - i2 n) + (i2 a + i2 n)), Y) ∧ CA M Y th 6 n a [61, 12, 10] 0 := by
  obtain ⟨Y, y, s1⟩ := ca_h3_5_q s hz (by simp) x
  obtain ⟨sa, sb, sc, sd, se, sf⟩ := ca_rd s
  obtain ⟨ta, tb, tc, td, te, tf⟩ := ca_rd s1
  have hk : X.k th = 6 := s.2.2.1.1
  refine ⟨Y, ?_, by simpa using s1⟩
  unfold cSw
  simp -dsimp (disch := omega) only [↓B1_bp, ↓B2_bp, BP_some, BQ_some, ↓reduceIte, L_0, L_1, L_2, L_3, L_4, L_5, L_10, L_11, L_12, L_13, L_20, L_30, L_31, L_40, L_41, L_50, L_51, L_60, L_61, i2_eq, Int.reduceEq, if_true, if_false, L_15, i2_neg, Int.reduceNeg, hk, Nat.reduceEqDiff, sc, y, tf]
theorem msw_5_2_q {Y : Mm} {n a : Int} (s : RA M Y 5 n a [] 0) (hz : (i2 a = i2 n) = False) (nz : nzI (i2 a - i2 n) = some ()) (x : Int32) : ∃ Z, mSw 164 Y (i2 2) x = some ((x / (i2 a - i2 n) + (i2 a + i2 n)), Z) ∧ RA M Z 5 n a [61, 12, 10] 0 := by
  obtain ⟨Z, y, s1⟩ := ra_h_5_q s hz nz (by simp) x
  obtain ⟨sa, sb, sc, sd, se⟩ := ra_rd s
  obtain ⟨ta, tb, tc, td, te⟩ := ra_rd s1
  refine ⟨Z, ?_, by simpa using s1⟩
  unfold mSw
  simp -dsimp (disch := omega) only [↓B1_bp, ↓B2_bp, BP_some, BQ_some, ↓reduceIte, L_0, L_1, L_2, L_3, L_4, L_5, L_10, L_11, L_12, L_13, L_20, L_30, L_31, L_40, L_41, L_50, L_51, L_60, L_61, i2_eq, Int.reduceEq, if_true, if_false, L_15, i2_neg, Int.reduceNeg, sa, y, te]
theorem csw_5_3 {th : Nat} {n a : Int} (s : CA M X th 6 n a [] 0) (x : Int32) : ∃ Y, cSw (some th) X (i2 3) x = some ((((x + i2 n) * i2 2) ^^^ i2 a) * i2 2, Y) ∧ CA M Y th 6 n a [60, 13, 11, 10] 0 := by
  obtain ⟨Y, y, s1⟩ := ca_t3_5 s (by simp) x
  obtain ⟨sa, sb, sc, sd, se, sf⟩ := ca_rd s
  obtain ⟨ta, tb, tc, td, te, tf⟩ := ca_rd s1
  have hk : X.k th = 6 := s.2.2.1.1
  refine ⟨Y, ?_, by simpa using s1⟩
  unfold cSw
  simp -dsimp (disch := omega) only [↓B1_bp, ↓B2_bp, BP_some, BQ_some, ↓reduceIte, L_0, L_1, L_2, L_3, L_4, L_5, L_10, L_11, L_12, L_13, L_20, L_30, L_31, L_40, L_41, L_50, L_51, L_60, L_61, i2_eq, Int.reduceEq, if_true, if_false, L_15, i2_neg, Int.reduceNeg, hk, Nat.reduceEqDiff, sc, y, tf]
theorem msw_5_3 {Y : Mm} {n a : Int} (s : RA M Y 5 n a [] 0) (x : Int32) : ∃ Z, mSw 164 Y (i2 3) x = some ((((x + i2 n) * i2 2) ^^^ i2 a) * i2 2, Z) ∧ RA M Z 5 n a [60, 13, 11, 10] 0 := by
  obtain ⟨Z, y, s1⟩ := ra_t_5 s (by simp) x
  obtain ⟨sa, sb, sc, sd, se⟩ := ra_rd s
  obtain ⟨ta, tb, tc, td, te⟩ := ra_rd s1
  refine ⟨Z, ?_, by simpa using s1⟩
  unfold mSw
  simp -dsimp (disch := omega) only [↓B1_bp, ↓B2_bp, BP_some, BQ_some, ↓reduceIte, L_0, L_1, L_2, L_3, L_4, L_5, L_10, L_11, L_12, L_13, L_20, L_30, L_31, L_40, L_41, L_50, L_51, L_60, L_61, i2_eq, Int.reduceEq, if_true, if_false, L_15, i2_neg, Int.reduceNeg, sa, y, te]
end ACTSW
