def f_X2_commonDivisor_L9 : Nat → Int64 → Int64 → Int32 → Option (Int64)
  | 0, _, _, _ => none
  | n + 1, v4_1, v6_2, v8_3 =>
    if 100 ≤ v8_3 then
      some v4_1
    else
      if (lg_cmp v6_2 0) = 0 then
        some v4_1
      else
        b1 (nzl v6_2) fun _ =>
        f_X2_commonDivisor_L9 n v6_2 (v4_1 - v4_1 / v6_2 * v6_2) (v8_3 + 1)
def f_X2_commonDivisor (p1 : Int64) (p2 : Int64) : Option (Int64) :=
  b1 (f_X2_commonDivisor_L9 400 p1 p2 0) fun (v4_4 : Int64) =>
  some v4_4
def f_X2_worth (nPe : Int32) (nDe : (Nat → Int32)) (p2 : Int32) : Option (Int64) :=
  if p2 = (-1) then
    b1 (f_X1_owedInAll nPe nDe) fun (r_2 : Int32) =>
    some r_2.toInt64
  else
    b1 (f_X1_isRiding nPe nDe p2) fun (r_1 : Int32) =>
    if r_1 = 0 then
      some 0
    else
      some 1
def f_X2_weighed_8_B17 (u8Pe : Int32) (u8De : (Nat → Int32)) (p3 : Int32) : Option (Int64) :=
  b1 (f_X2_worth u8Pe u8De p3) fun (r_1 : Int64) =>
  some r_1
def f_X2_weighed_8 (u8Pe : Int32) (u8De : (Nat → Int32)) (p2 : Int32) (p3 : Int32) (p4 : Int32) : Option (Int64) :=
  if p4 ≤ 8 then
    f_X2_weighed_8_B17 u8Pe u8De p3
  else
    f_X2_weighed_8_B17 u8Pe u8De p3
def f_X2_weighed_7_B17 (u7Pe : Int32) (u7De : (Nat → Int32)) (p3 : Int32) : Option (Int64) :=
  b1 (f_X2_worth u7Pe u7De p3) fun (r_1 : Int64) =>
  some r_1
def f_X2_weighed_7_L44 (u7Pe : Int32) (u7Da : Int32) (u7Dr : Int32) (u7Na : (Nat → Int32)) (u7Mo : (Nat → Int32)) (u7Wa : (Nat → Int32)) (u7De : (Nat → Int32)) (p2 : Int32) (p3 : Int32) (p4 : Int32) : Nat → Int64 → Int32 → Option (Int64)
  | 0, _, _ => none
  | n + 1, v5_2, v8_3 =>
    if 2 ≤ v8_3 then
      some v5_2
    else
      b1 (
        if v8_3 = 0 then
          some p2
        else
          some (10 - p2)) fun (t_19 : Int32) =>
      if t_19 ≤ 0 then
        f_X2_weighed_7_L44 u7Pe u7Da u7Dr u7Na u7Mo u7Wa u7De p2 p3 p4 n v5_2 (v8_3 + 1)
      else
        b7 (f_X1_become u7Pe u7Da u7Dr u7Na u7Mo u7Wa u7De) fun (u8Pe_20 : Int32) (u8Da_21 : Int32) (u8Dr_22 : Int32) (u8Na_23 : (Nat → Int32)) (u8Mo_24 : (Nat → Int32)) (u8Wa_25 : (Nat → Int32)) (u8De_26 : (Nat → Int32)) =>
        b1 (
          if v8_3 = 0 then
            some 9
          else
            some u8Dr_22) fun (t_27 : Int32) =>
        b4 (f_X1_runDay u8Pe_20 u8Da_21 u8Na_23 u8Mo_24 u8Wa_25 u8De_26 t_27) fun (r_28 : Int32) (u8Da_29 : Int32) (u8Mo_30 : (Nat → Int32)) (u8De_31 : (Nat → Int32)) =>
        b1 (f_X2_weighed_8 u8Pe_20 u8De_31 p2 p3 p4) fun (r_32 : Int64) =>
        f_X2_weighed_7_L44 u7Pe u7Da u7Dr u7Na u7Mo u7Wa u7De p2 p3 p4 n (v5_2 + (t_19.toInt64 * r_32)) (v8_3 + 1)
def f_X2_weighed_7 (u7Pe : Int32) (u7Da : Int32) (u7Dr : Int32) (u7Na : (Nat → Int32)) (u7Mo : (Nat → Int32)) (u7Wa : (Nat → Int32)) (u7De : (Nat → Int32)) (p2 : Int32) (p3 : Int32) (p4 : Int32) : Option (Int64) :=
  if p4 ≤ 7 then
    f_X2_weighed_7_B17 u7Pe u7De p3
  else
    b1 (f_X2_weighed_7_L44 u7Pe u7Da u7Dr u7Na u7Mo u7Wa u7De p2 p3 p4 400 0 0) fun (v5_11 : Int64) =>
    some v5_11
def f_X2_weighed_6_B17 (u6Pe : Int32) (u6De : (Nat → Int32)) (p3 : Int32) : Option (Int64) :=
  b1 (f_X2_worth u6Pe u6De p3) fun (r_1 : Int64) =>
  some r_1
def f_X2_weighed_6_L44 (u6Pe : Int32) (u6Da : Int32) (u6Dr : Int32) (u6Na : (Nat → Int32)) (u6Mo : (Nat → Int32)) (u6Wa : (Nat → Int32)) (u6De : (Nat → Int32)) (p2 : Int32) (p3 : Int32) (p4 : Int32) : Nat → Int64 → Int32 → Option (Int64)
  | 0, _, _ => none
  | n + 1, v5_2, v8_3 =>
    if 2 ≤ v8_3 then
      some v5_2
    else
      b1 (
        if v8_3 = 0 then
          some p2
        else
          some (10 - p2)) fun (t_33 : Int32) =>
      if t_33 ≤ 0 then
        f_X2_weighed_6_L44 u6Pe u6Da u6Dr u6Na u6Mo u6Wa u6De p2 p3 p4 n v5_2 (v8_3 + 1)
      else
        b7 (f_X1_become u6Pe u6Da u6Dr u6Na u6Mo u6Wa u6De) fun (u7Pe_34 : Int32) (u7Da_35 : Int32) (u7Dr_36 : Int32) (u7Na_37 : (Nat → Int32)) (u7Mo_38 : (Nat → Int32)) (u7Wa_39 : (Nat → Int32)) (u7De_40 : (Nat → Int32)) =>
        b1 (
          if v8_3 = 0 then
            some 9
          else
            some u7Dr_36) fun (t_41 : Int32) =>
        b4 (f_X1_runDay u7Pe_34 u7Da_35 u7Na_37 u7Mo_38 u7Wa_39 u7De_40 t_41) fun (r_42 : Int32) (u7Da_43 : Int32) (u7Mo_44 : (Nat → Int32)) (u7De_45 : (Nat → Int32)) =>
        b1 (f_X2_weighed_7 u7Pe_34 u7Da_43 u7Dr_36 u7Na_37 u7Mo_44 u7Wa_39 u7De_45 p2 p3 p4) fun (r_46 : Int64) =>
        f_X2_weighed_6_L44 u6Pe u6Da u6Dr u6Na u6Mo u6Wa u6De p2 p3 p4 n (v5_2 + (t_33.toInt64 * r_46)) (v8_3 + 1)
def f_X2_weighed_6 (u6Pe : Int32) (u6Da : Int32) (u6Dr : Int32) (u6Na : (Nat → Int32)) (u6Mo : (Nat → Int32)) (u6Wa : (Nat → Int32)) (u6De : (Nat → Int32)) (p2 : Int32) (p3 : Int32) (p4 : Int32) : Option (Int64) :=
  if p4 ≤ 6 then
    f_X2_weighed_6_B17 u6Pe u6De p3
  else
    b1 (f_X2_weighed_6_L44 u6Pe u6Da u6Dr u6Na u6Mo u6Wa u6De p2 p3 p4 400 0 0) fun (v5_18 : Int64) =>
    some v5_18
def f_X2_weighed_5_B17 (u5Pe : Int32) (u5De : (Nat → Int32)) (p3 : Int32) : Option (Int64) :=
  b1 (f_X2_worth u5Pe u5De p3) fun (r_1 : Int64) =>
  some r_1
def f_X2_weighed_5_L44 (u5Pe : Int32) (u5Da : Int32) (u5Dr : Int32) (u5Na : (Nat → Int32)) (u5Mo : (Nat → Int32)) (u5Wa : (Nat → Int32)) (u5De : (Nat → Int32)) (p2 : Int32) (p3 : Int32) (p4 : Int32) : Nat → Int64 → Int32 → Option (Int64)
  | 0, _, _ => none
  | n + 1, v5_2, v8_3 =>
    if 2 ≤ v8_3 then
      some v5_2
    else
      b1 (
        if v8_3 = 0 then
          some p2
        else
          some (10 - p2)) fun (t_47 : Int32) =>
      if t_47 ≤ 0 then
        f_X2_weighed_5_L44 u5Pe u5Da u5Dr u5Na u5Mo u5Wa u5De p2 p3 p4 n v5_2 (v8_3 + 1)
      else
        b7 (f_X1_become u5Pe u5Da u5Dr u5Na u5Mo u5Wa u5De) fun (u6Pe_48 : Int32) (u6Da_49 : Int32) (u6Dr_50 : Int32) (u6Na_51 : (Nat → Int32)) (u6Mo_52 : (Nat → Int32)) (u6Wa_53 : (Nat → Int32)) (u6De_54 : (Nat → Int32)) =>
        b1 (
          if v8_3 = 0 then
            some 9
          else
            some u6Dr_50) fun (t_55 : Int32) =>
        b4 (f_X1_runDay u6Pe_48 u6Da_49 u6Na_51 u6Mo_52 u6Wa_53 u6De_54 t_55) fun (r_56 : Int32) (u6Da_57 : Int32) (u6Mo_58 : (Nat → Int32)) (u6De_59 : (Nat → Int32)) =>
        b1 (f_X2_weighed_6 u6Pe_48 u6Da_57 u6Dr_50 u6Na_51 u6Mo_58 u6Wa_53 u6De_59 p2 p3 p4) fun (r_60 : Int64) =>
        f_X2_weighed_5_L44 u5Pe u5Da u5Dr u5Na u5Mo u5Wa u5De p2 p3 p4 n (v5_2 + (t_47.toInt64 * r_60)) (v8_3 + 1)
def f_X2_weighed_5 (u5Pe : Int32) (u5Da : Int32) (u5Dr : Int32) (u5Na : (Nat → Int32)) (u5Mo : (Nat → Int32)) (u5Wa : (Nat → Int32)) (u5De : (Nat → Int32)) (p2 : Int32) (p3 : Int32) (p4 : Int32) : Option (Int64) :=
  if p4 ≤ 5 then
    f_X2_weighed_5_B17 u5Pe u5De p3
  else
    b1 (f_X2_weighed_5_L44 u5Pe u5Da u5Dr u5Na u5Mo u5Wa u5De p2 p3 p4 400 0 0) fun (v5_25 : Int64) =>
    some v5_25
def f_X2_weighed_4_B17 (u4Pe : Int32) (u4De : (Nat → Int32)) (p3 : Int32) : Option (Int64) :=
  b1 (f_X2_worth u4Pe u4De p3) fun (r_1 : Int64) =>
  some r_1
def f_X2_weighed_4_L44 (u4Pe : Int32) (u4Da : Int32) (u4Dr : Int32) (u4Na : (Nat → Int32)) (u4Mo : (Nat → Int32)) (u4Wa : (Nat → Int32)) (u4De : (Nat → Int32)) (p2 : Int32) (p3 : Int32) (p4 : Int32) : Nat → Int64 → Int32 → Option (Int64)
  | 0, _, _ => none
  | n + 1, v5_2, v8_3 =>
    if 2 ≤ v8_3 then
      some v5_2
    else
      b1 (
        if v8_3 = 0 then
          some p2
        else
          some (10 - p2)) fun (t_61 : Int32) =>
      if t_61 ≤ 0 then
        f_X2_weighed_4_L44 u4Pe u4Da u4Dr u4Na u4Mo u4Wa u4De p2 p3 p4 n v5_2 (v8_3 + 1)
      else
        b7 (f_X1_become u4Pe u4Da u4Dr u4Na u4Mo u4Wa u4De) fun (u5Pe_62 : Int32) (u5Da_63 : Int32) (u5Dr_64 : Int32) (u5Na_65 : (Nat → Int32)) (u5Mo_66 : (Nat → Int32)) (u5Wa_67 : (Nat → Int32)) (u5De_68 : (Nat → Int32)) =>
        b1 (
          if v8_3 = 0 then
            some 9
          else
            some u5Dr_64) fun (t_69 : Int32) =>
        b4 (f_X1_runDay u5Pe_62 u5Da_63 u5Na_65 u5Mo_66 u5Wa_67 u5De_68 t_69) fun (r_70 : Int32) (u5Da_71 : Int32) (u5Mo_72 : (Nat → Int32)) (u5De_73 : (Nat → Int32)) =>
        b1 (f_X2_weighed_5 u5Pe_62 u5Da_71 u5Dr_64 u5Na_65 u5Mo_72 u5Wa_67 u5De_73 p2 p3 p4) fun (r_74 : Int64) =>
        f_X2_weighed_4_L44 u4Pe u4Da u4Dr u4Na u4Mo u4Wa u4De p2 p3 p4 n (v5_2 + (t_61.toInt64 * r_74)) (v8_3 + 1)
def f_X2_weighed_4 (u4Pe : Int32) (u4Da : Int32) (u4Dr : Int32) (u4Na : (Nat → Int32)) (u4Mo : (Nat → Int32)) (u4Wa : (Nat → Int32)) (u4De : (Nat → Int32)) (p2 : Int32) (p3 : Int32) (p4 : Int32) : Option (Int64) :=
  if p4 ≤ 4 then
    f_X2_weighed_4_B17 u4Pe u4De p3
  else
    b1 (f_X2_weighed_4_L44 u4Pe u4Da u4Dr u4Na u4Mo u4Wa u4De p2 p3 p4 400 0 0) fun (v5_32 : Int64) =>
    some v5_32
def f_X2_weighed_3_B17 (u3Pe : Int32) (u3De : (Nat → Int32)) (p3 : Int32) : Option (Int64) :=
  b1 (f_X2_worth u3Pe u3De p3) fun (r_1 : Int64) =>
  some r_1
def f_X2_weighed_3_L44 (u3Pe : Int32) (u3Da : Int32) (u3Dr : Int32) (u3Na : (Nat → Int32)) (u3Mo : (Nat → Int32)) (u3Wa : (Nat → Int32)) (u3De : (Nat → Int32)) (p2 : Int32) (p3 : Int32) (p4 : Int32) : Nat → Int64 → Int32 → Option (Int64)
  | 0, _, _ => none
  | n + 1, v5_2, v8_3 =>
    if 2 ≤ v8_3 then
      some v5_2
    else
      b1 (
        if v8_3 = 0 then
          some p2
        else
          some (10 - p2)) fun (t_75 : Int32) =>
      if t_75 ≤ 0 then
        f_X2_weighed_3_L44 u3Pe u3Da u3Dr u3Na u3Mo u3Wa u3De p2 p3 p4 n v5_2 (v8_3 + 1)
      else
        b7 (f_X1_become u3Pe u3Da u3Dr u3Na u3Mo u3Wa u3De) fun (u4Pe_76 : Int32) (u4Da_77 : Int32) (u4Dr_78 : Int32) (u4Na_79 : (Nat → Int32)) (u4Mo_80 : (Nat → Int32)) (u4Wa_81 : (Nat → Int32)) (u4De_82 : (Nat → Int32)) =>
        b1 (
          if v8_3 = 0 then
            some 9
          else
            some u4Dr_78) fun (t_83 : Int32) =>
        b4 (f_X1_runDay u4Pe_76 u4Da_77 u4Na_79 u4Mo_80 u4Wa_81 u4De_82 t_83) fun (r_84 : Int32) (u4Da_85 : Int32) (u4Mo_86 : (Nat → Int32)) (u4De_87 : (Nat → Int32)) =>
        b1 (f_X2_weighed_4 u4Pe_76 u4Da_85 u4Dr_78 u4Na_79 u4Mo_86 u4Wa_81 u4De_87 p2 p3 p4) fun (r_88 : Int64) =>
        f_X2_weighed_3_L44 u3Pe u3Da u3Dr u3Na u3Mo u3Wa u3De p2 p3 p4 n (v5_2 + (t_75.toInt64 * r_88)) (v8_3 + 1)
def f_X2_weighed_3 (u3Pe : Int32) (u3Da : Int32) (u3Dr : Int32) (u3Na : (Nat → Int32)) (u3Mo : (Nat → Int32)) (u3Wa : (Nat → Int32)) (u3De : (Nat → Int32)) (p2 : Int32) (p3 : Int32) (p4 : Int32) : Option (Int64) :=
  if p4 ≤ 3 then
    f_X2_weighed_3_B17 u3Pe u3De p3
  else
    b1 (f_X2_weighed_3_L44 u3Pe u3Da u3Dr u3Na u3Mo u3Wa u3De p2 p3 p4 400 0 0) fun (v5_39 : Int64) =>
    some v5_39
def f_X2_weighed_2_B17 (u2Pe : Int32) (u2De : (Nat → Int32)) (p3 : Int32) : Option (Int64) :=
  b1 (f_X2_worth u2Pe u2De p3) fun (r_1 : Int64) =>
  some r_1
def f_X2_weighed_2_L44 (u2Pe : Int32) (u2Da : Int32) (u2Dr : Int32) (u2Na : (Nat → Int32)) (u2Mo : (Nat → Int32)) (u2Wa : (Nat → Int32)) (u2De : (Nat → Int32)) (p2 : Int32) (p3 : Int32) (p4 : Int32) : Nat → Int64 → Int32 → Option (Int64)
  | 0, _, _ => none
  | n + 1, v5_2, v8_3 =>
    if 2 ≤ v8_3 then
      some v5_2
    else
      b1 (
        if v8_3 = 0 then
          some p2
        else
          some (10 - p2)) fun (t_89 : Int32) =>
      if t_89 ≤ 0 then
        f_X2_weighed_2_L44 u2Pe u2Da u2Dr u2Na u2Mo u2Wa u2De p2 p3 p4 n v5_2 (v8_3 + 1)
      else
        b7 (f_X1_become u2Pe u2Da u2Dr u2Na u2Mo u2Wa u2De) fun (u3Pe_90 : Int32) (u3Da_91 : Int32) (u3Dr_92 : Int32) (u3Na_93 : (Nat → Int32)) (u3Mo_94 : (Nat → Int32)) (u3Wa_95 : (Nat → Int32)) (u3De_96 : (Nat → Int32)) =>
        b1 (
          if v8_3 = 0 then
            some 9
          else
            some u3Dr_92) fun (t_97 : Int32) =>
        b4 (f_X1_runDay u3Pe_90 u3Da_91 u3Na_93 u3Mo_94 u3Wa_95 u3De_96 t_97) fun (r_98 : Int32) (u3Da_99 : Int32) (u3Mo_100 : (Nat → Int32)) (u3De_101 : (Nat → Int32)) =>
        b1 (f_X2_weighed_3 u3Pe_90 u3Da_99 u3Dr_92 u3Na_93 u3Mo_100 u3Wa_95 u3De_101 p2 p3 p4) fun (r_102 : Int64) =>
        f_X2_weighed_2_L44 u2Pe u2Da u2Dr u2Na u2Mo u2Wa u2De p2 p3 p4 n (v5_2 + (t_89.toInt64 * r_102)) (v8_3 + 1)
def f_X2_weighed_2 (u2Pe : Int32) (u2Da : Int32) (u2Dr : Int32) (u2Na : (Nat → Int32)) (u2Mo : (Nat → Int32)) (u2Wa : (Nat → Int32)) (u2De : (Nat → Int32)) (p2 : Int32) (p3 : Int32) (p4 : Int32) : Option (Int64) :=
  if p4 ≤ 2 then
    f_X2_weighed_2_B17 u2Pe u2De p3
  else
    b1 (f_X2_weighed_2_L44 u2Pe u2Da u2Dr u2Na u2Mo u2Wa u2De p2 p3 p4 400 0 0) fun (v5_46 : Int64) =>
    some v5_46
def f_X2_weighed_1_B17 (u1Pe : Int32) (u1De : (Nat → Int32)) (p3 : Int32) : Option (Int64) :=
  b1 (f_X2_worth u1Pe u1De p3) fun (r_1 : Int64) =>
  some r_1
def f_X2_weighed_1_L44 (u1Pe : Int32) (u1Da : Int32) (u1Dr : Int32) (u1Na : (Nat → Int32)) (u1Mo : (Nat → Int32)) (u1Wa : (Nat → Int32)) (u1De : (Nat → Int32)) (p2 : Int32) (p3 : Int32) (p4 : Int32) : Nat → Int64 → Int32 → Option (Int64)
  | 0, _, _ => none
  | n + 1, v5_2, v8_3 =>
    if 2 ≤ v8_3 then
      some v5_2
    else
      b1 (
        if v8_3 = 0 then
          some p2
        else
          some (10 - p2)) fun (t_103 : Int32) =>
      if t_103 ≤ 0 then
        f_X2_weighed_1_L44 u1Pe u1Da u1Dr u1Na u1Mo u1Wa u1De p2 p3 p4 n v5_2 (v8_3 + 1)
      else
        b7 (f_X1_become u1Pe u1Da u1Dr u1Na u1Mo u1Wa u1De) fun (u2Pe_104 : Int32) (u2Da_105 : Int32) (u2Dr_106 : Int32) (u2Na_107 : (Nat → Int32)) (u2Mo_108 : (Nat → Int32)) (u2Wa_109 : (Nat → Int32)) (u2De_110 : (Nat → Int32)) =>
        b1 (
          if v8_3 = 0 then
            some 9
          else
            some u2Dr_106) fun (t_111 : Int32) =>
        b4 (f_X1_runDay u2Pe_104 u2Da_105 u2Na_107 u2Mo_108 u2Wa_109 u2De_110 t_111) fun (r_112 : Int32) (u2Da_113 : Int32) (u2Mo_114 : (Nat → Int32)) (u2De_115 : (Nat → Int32)) =>
        b1 (f_X2_weighed_2 u2Pe_104 u2Da_113 u2Dr_106 u2Na_107 u2Mo_114 u2Wa_109 u2De_115 p2 p3 p4) fun (r_116 : Int64) =>
        f_X2_weighed_1_L44 u1Pe u1Da u1Dr u1Na u1Mo u1Wa u1De p2 p3 p4 n (v5_2 + (t_103.toInt64 * r_116)) (v8_3 + 1)
def f_X2_weighed_1 (u1Pe : Int32) (u1Da : Int32) (u1Dr : Int32) (u1Na : (Nat → Int32)) (u1Mo : (Nat → Int32)) (u1Wa : (Nat → Int32)) (u1De : (Nat → Int32)) (p2 : Int32) (p3 : Int32) (p4 : Int32) : Option (Int64) :=
  if p4 ≤ 1 then
    f_X2_weighed_1_B17 u1Pe u1De p3
  else
    b1 (f_X2_weighed_1_L44 u1Pe u1Da u1Dr u1Na u1Mo u1Wa u1De p2 p3 p4 400 0 0) fun (v5_53 : Int64) =>
    some v5_53
def f_X2_weighed_0_B17 (u0Pe : Int32) (u0De : (Nat → Int32)) (p3 : Int32) : Option (Int64) :=
  b1 (f_X2_worth u0Pe u0De p3) fun (r_1 : Int64) =>
  some r_1
def f_X2_weighed_0_L44 (u0Pe : Int32) (u0Da : Int32) (u0Dr : Int32) (u0Na : (Nat → Int32)) (u0Mo : (Nat → Int32)) (u0Wa : (Nat → Int32)) (u0De : (Nat → Int32)) (p2 : Int32) (p3 : Int32) (p4 : Int32) : Nat → Int64 → Int32 → Option (Int64)
  | 0, _, _ => none
  | n + 1, v5_2, v8_3 =>
    if 2 ≤ v8_3 then
      some v5_2
    else
      b1 (
        if v8_3 = 0 then
          some p2
        else
          some (10 - p2)) fun (t_117 : Int32) =>
      if t_117 ≤ 0 then
        f_X2_weighed_0_L44 u0Pe u0Da u0Dr u0Na u0Mo u0Wa u0De p2 p3 p4 n v5_2 (v8_3 + 1)
      else
        b7 (f_X1_become u0Pe u0Da u0Dr u0Na u0Mo u0Wa u0De) fun (u1Pe_118 : Int32) (u1Da_119 : Int32) (u1Dr_120 : Int32) (u1Na_121 : (Nat → Int32)) (u1Mo_122 : (Nat → Int32)) (u1Wa_123 : (Nat → Int32)) (u1De_124 : (Nat → Int32)) =>
        b1 (
          if v8_3 = 0 then
            some 9
          else
            some u1Dr_120) fun (t_125 : Int32) =>
        b4 (f_X1_runDay u1Pe_118 u1Da_119 u1Na_121 u1Mo_122 u1Wa_123 u1De_124 t_125) fun (r_126 : Int32) (u1Da_127 : Int32) (u1Mo_128 : (Nat → Int32)) (u1De_129 : (Nat → Int32)) =>
        b1 (f_X2_weighed_1 u1Pe_118 u1Da_127 u1Dr_120 u1Na_121 u1Mo_128 u1Wa_123 u1De_129 p2 p3 p4) fun (r_130 : Int64) =>
        f_X2_weighed_0_L44 u0Pe u0Da u0Dr u0Na u0Mo u0Wa u0De p2 p3 p4 n (v5_2 + (t_117.toInt64 * r_130)) (v8_3 + 1)
def f_X2_weighed_0 (u0Pe : Int32) (u0Da : Int32) (u0Dr : Int32) (u0Na : (Nat → Int32)) (u0Mo : (Nat → Int32)) (u0Wa : (Nat → Int32)) (u0De : (Nat → Int32)) (p2 : Int32) (p3 : Int32) (p4 : Int32) : Option (Int64) :=
  if p4 ≤ 0 then
    f_X2_weighed_0_B17 u0Pe u0De p3
  else
    b1 (f_X2_weighed_0_L44 u0Pe u0Da u0Dr u0Na u0Mo u0Wa u0De p2 p3 p4 400 0 0) fun (v5_60 : Int64) =>
    some v5_60
def f_X2_fractionOf_L27 (p4 : Int32) : Nat → Int64 → Int32 → Option (Int64)
  | 0, _, _ => none
  | n + 1, v8_10, v10_11 =>
    if p4 ≤ v10_11 then
      some v8_10
    else
      f_X2_fractionOf_L27 p4 n (v8_10 * 10) (v10_11 + 1)
def f_X2_fractionOf (nPe : Int32) (nDa : Int32) (nDr : Int32) (nNa : (Nat → Int32)) (nMo : (Nat → Int32)) (nWa : (Nat → Int32)) (nDe : (Nat → Int32)) (p2 : Int32) (p3 : Int32) (p4 : Int32) (p5 : Int32) : Option (Int64) :=
  b7 (f_X1_become nPe nDa nDr nNa nMo nWa nDe) fun (u0Pe_1 : Int32) (u0Da_2 : Int32) (u0Dr_3 : Int32) (u0Na_4 : (Nat → Int32)) (u0Mo_5 : (Nat → Int32)) (u0Wa_6 : (Nat → Int32)) (u0De_7 : (Nat → Int32)) =>
  b1 (f_X2_weighed_0 u0Pe_1 u0Da_2 u0Dr_3 u0Na_4 u0Mo_5 u0Wa_6 u0De_7 p2 p3 p4) fun (r_8 : Int64) =>
  b1 (f_X2_fractionOf_L27 p4 400 1 0) fun (v8_12 : Int64) =>
  b1 (f_X2_commonDivisor v8_12 r_8) fun (r_13 : Int64) =>
  b1 (some (if r_13 < 1 then 1 else r_13)) fun (z_14 : Int64) =>
  if p5 = 0 then
    b1 (nzl z_14) fun _ =>
    some (r_8 / z_14)
  else
    b1 (nzl z_14) fun _ =>
    some (v8_12 / z_14)
def f_X3_fail (p1 : Int32) (p2 : Int32) : Option (Int32 × Int32 × Int32) :=
  some (0, p1, p2)
def f_X3_everyoneIsThere (xLe : Int32) (xFf : Int32) (xFp : Int32) (xHo : Int32) (dPe : Int32) : Option (Int32 × Int32 × Int32) :=
  if xHo < dPe then
    some (1, xFf, xFp)
  else
    b3 (f_X3_fail 6 xLe) fun (r_1 : Int32) (xFf_2 : Int32) (xFp_3 : Int32) =>
    if r_1 = 0 then
      some (0, xFf_2, xFp_3)
    else
      some (1, xFf_2, xFp_3)
def f_X3_sortAt_B45 (a_1 : Int32) : Option (Int32) :=
  if a_1 = 59 then
    some 3
  else
    some 4
def f_X3_sortAt_B31 (a_1 : Int32) : Option (Int32) :=
  if a_1 < 48 then
    f_X3_sortAt_B45 a_1
  else
    if 57 < a_1 then
      f_X3_sortAt_B45 a_1
    else
      some 2
def f_X3_sortAt (xBy : (Nat → Int32)) (xLe : Int32) (p1 : Int32) : Option (Int32) :=
  if p1 < xLe then
    b1 (rd xBy 160 p1) fun (a_1 : Int32) =>
    if a_1 < 97 then
      f_X3_sortAt_B31 a_1
    else
      if 122 < a_1 then
        f_X3_sortAt_B31 a_1
      else
        some 1
  else
    some 0
def f_X3_next_L0 (xBy : (Nat → Int32)) (xLe : Int32) : Nat → Int32 → Option (Int32)
  | 0, _ => none
  | n + 1, xPl_1 =>
    if xLe ≤ xPl_1 then
      some xPl_1
    else
      b1 (rd xBy 160 xPl_1) fun (a_3 : Int32) =>
      if a_3 = 32 then
        f_X3_next_L0 xBy xLe n (xPl_1 + 1)
      else
        some xPl_1
def f_X3_next_L74 (xBy : (Nat → Int32)) (xLe : Int32) (r_4 : Int32) : Nat → Int32 → Option (Int32)
  | 0, _ => none
  | n + 1, xPl_6 =>
    if xLe ≤ xPl_6 then
      some xPl_6
    else
      b1 (f_X3_sortAt xBy xLe xPl_6) fun (r_8 : Int32) =>
      if r_8 = r_4 then
        f_X3_next_L74 xBy xLe r_4 n (xPl_6 + 1)
      else
        some xPl_6
def f_X3_next_B170 (xPl_2 : Int32) (xPl_5 : Int32) (r_4 : Int32) : Option (Int32 × Int32 × Int32 × Int32 × Int32 × Int32) :=
  b3 (f_X3_fail 1 xPl_2) fun (r_13 : Int32) (xFf_14 : Int32) (xFp_15 : Int32) =>
  if r_13 = 0 then
    some (0, xFf_14, xFp_15, xPl_5, r_4, xPl_2)
  else
    some (1, xFf_14, xFp_15, xPl_5, r_4, xPl_2)
def f_X3_next (xBy : (Nat → Int32)) (xLe : Int32) (xFf : Int32) (xFp : Int32) (xPl : Int32) : Option (Int32 × Int32 × Int32 × Int32 × Int32 × Int32) :=
  b1 (f_X3_next_L0 xBy xLe 400 xPl) fun (xPl_2 : Int32) =>
  b1 (f_X3_sortAt xBy xLe xPl_2) fun (r_4 : Int32) =>
  b1 (
    if r_4 = 1 then
      b1 (f_X3_next_L74 xBy xLe r_4 400 xPl_2) fun (xPl_7 : Int32) =>
      some xPl_7
    else
      if r_4 = 2 then
        b1 (f_X3_next_L74 xBy xLe r_4 400 xPl_2) fun (xPl_10 : Int32) =>
        some xPl_10
      else
        if r_4 = 3 then
          some (xPl_2 + 1)
        else
          some xPl_2) fun (xPl_5 : Int32) =>
  b1 (
    if r_4 = 2 then
      if (xPl_5 - xPl_2) ≤ 2 then
        some 0
      else
        some 1
    else
      some 0) fun (t_12 : Int32) =>
  if r_4 = 4 then
    f_X3_next_B170 xPl_2 xPl_5 r_4
  else
    if t_12 = 0 then
      some (1, xFf, xFp, xPl_5, r_4, xPl_2)
    else
      f_X3_next_B170 xPl_2 xPl_5 r_4
def f_X3_takeNumber_L37 (xBy : (Nat → Int32)) (xPl_4 : Int32) : Nat → Int32 → Int32 → Option (Int32)
  | 0, _, _ => none
  | n + 1, v3_7, xVa_8 =>
    if xPl_4 ≤ v3_7 then
      some xVa_8
    else
      b1 (rd xBy 160 v3_7) fun (a_10 : Int32) =>
      f_X3_takeNumber_L37 xBy xPl_4 n (v3_7 + 1) (((xVa_8 * 10) + a_10) - 48)
def f_X3_takeNumber (xBy : (Nat → Int32)) (xLe : Int32) (xFf : Int32) (xFp : Int32) (xPl : Int32) (xVa : Int32) (p1 : Int32) (p2 : Int32) : Option (Int32 × Int32 × Int32 × Int32 × Int32 × Int32 × Int32) :=
  b6 (f_X3_next xBy xLe xFf xFp xPl) fun (r_1 : Int32) (xFf_2 : Int32) (xFp_3 : Int32) (xPl_4 : Int32) (xSo_5 : Int32) (xSt_6 : Int32) =>
  if r_1 = 0 then
    some (0, xFf_2, xFp_3, xPl_4, xSo_5, xSt_6, xVa)
  else
    if xSo_5 = 2 then
      b1 (f_X3_takeNumber_L37 xBy xPl_4 400 xSt_6 0) fun (xVa_9 : Int32) =>
      b1 (f_X7_within xVa_9 p1 p2) fun (r_11 : Int32) =>
      if r_11 = 0 then
        b3 (f_X3_fail 3 xSt_6) fun (r_12 : Int32) (xFf_13 : Int32) (xFp_14 : Int32) =>
        if r_12 = 0 then
          some (0, xFf_13, xFp_14, xPl_4, xSo_5, xSt_6, xVa_9)
        else
          some (1, xFf_13, xFp_14, xPl_4, xSo_5, xSt_6, xVa_9)
      else
        some (1, xFf_2, xFp_3, xPl_4, xSo_5, xSt_6, xVa_9)
    else
      b3 (f_X3_fail 2 xSt_6) fun (r_15 : Int32) (xFf_16 : Int32) (xFp_17 : Int32) =>
      b1 (bz r_15) fun (z_18 : Int32) =>
      some (z_18, xFf_16, xFp_17, xPl_4, xSo_5, xSt_6, xVa)
def f_X3_takeSemicolon (xBy : (Nat → Int32)) (xLe : Int32) (xFf : Int32) (xFp : Int32) (xPl : Int32) : Option (Int32 × Int32 × Int32 × Int32 × Int32 × Int32) :=
  b6 (f_X3_next xBy xLe xFf xFp xPl) fun (r_1 : Int32) (xFf_2 : Int32) (xFp_3 : Int32) (xPl_4 : Int32) (xSo_5 : Int32) (xSt_6 : Int32) =>
  if r_1 = 0 then
    some (0, xFf_2, xFp_3, xPl_4, xSo_5, xSt_6)
  else
    if xSo_5 = 3 then
      some (1, xFf_2, xFp_3, xPl_4, xSo_5, xSt_6)
    else
      b3 (f_X3_fail 2 xSt_6) fun (r_7 : Int32) (xFf_8 : Int32) (xFp_9 : Int32) =>
      if r_7 = 0 then
        some (0, xFf_8, xFp_9, xPl_4, xSo_5, xSt_6)
      else
        some (1, xFf_8, xFp_9, xPl_4, xSo_5, xSt_6)
def f_X3_takePerson (xBy : (Nat → Int32)) (xLe : Int32) (xFf : Int32) (xFp : Int32) (xPl : Int32) (xSo : Int32) (xSt : Int32) (xVa : Int32) (dPe : Int32) (dNa : (Nat → Int32)) (dMo : (Nat → Int32)) (dWa : (Nat → Int32)) (p1 : Int32) : Option (Int32 × Int32 × Int32 × Int32 × Int32 × Int32 × Int32 × Int32 × (Nat → Int32) × (Nat → Int32) × (Nat → Int32)) :=
  if dPe < 5 then
    b7 (f_X3_takeNumber xBy xLe xFf xFp xPl xVa 0 99) fun (r_1 : Int32) (xFf_2 : Int32) (xFp_3 : Int32) (xPl_4 : Int32) (xSo_5 : Int32) (xSt_6 : Int32) (xVa_7 : Int32) =>
    if r_1 = 0 then
      some (0, xFf_2, xFp_3, xPl_4, xSo_5, xSt_6, xVa_7, dPe, dNa, dMo, dWa)
    else
      b1 (wr dMo 5 dPe xVa_7) fun (dMo_8 : Nat → Int32) =>
      b7 (f_X3_takeNumber xBy xLe xFf_2 xFp_3 xPl_4 xVa_7 0 9) fun (r_9 : Int32) (xFf_10 : Int32) (xFp_11 : Int32) (xPl_12 : Int32) (xSo_13 : Int32) (xSt_14 : Int32) (xVa_15 : Int32) =>
      if r_9 = 0 then
        some (0, xFf_10, xFp_11, xPl_12, xSo_13, xSt_14, xVa_15, dPe, dNa, dMo_8, dWa)
      else
        b1 (wr dWa 5 dPe xVa_15) fun (dWa_16 : Nat → Int32) =>
        b1 (wr dNa 5 dPe p1) fun (dNa_17 : Nat → Int32) =>
        b6 (f_X3_takeSemicolon xBy xLe xFf_10 xFp_11 xPl_12) fun (r_18 : Int32) (xFf_19 : Int32) (xFp_20 : Int32) (xPl_21 : Int32) (xSo_22 : Int32) (xSt_23 : Int32) =>
        b1 (bz r_18) fun (z_24 : Int32) =>
        some (z_24, xFf_19, xFp_20, xPl_21, xSo_22, xSt_23, xVa_15, dPe + 1, dNa_17, dMo_8, dWa_16)
  else
    b3 (f_X3_fail 5 xSt) fun (r_25 : Int32) (xFf_26 : Int32) (xFp_27 : Int32) =>
    b1 (bz r_25) fun (z_28 : Int32) =>
    some (z_28, xFf_26, xFp_27, xPl, xSo, xSt, xVa, dPe, dNa, dMo, dWa)
def f_X3_takeOwes (xBy : (Nat → Int32)) (xLe : Int32) (xFf : Int32) (xFp : Int32) (xPl : Int32) (xVa : Int32) (xHo : Int32) (dDe : (Nat → Int32)) : Option (Int32 × Int32 × Int32 × Int32 × Int32 × Int32 × Int32 × Int32 × (Nat → Int32)) :=
  b7 (f_X3_takeNumber xBy xLe xFf xFp xPl xVa 0 4) fun (r_1 : Int32) (xFf_2 : Int32) (xFp_3 : Int32) (xPl_4 : Int32) (xSo_5 : Int32) (xSt_6 : Int32) (xVa_7 : Int32) =>
  if r_1 = 0 then
    some (0, xFf_2, xFp_3, xPl_4, xSo_5, xSt_6, xVa_7, xHo, dDe)
  else
    b7 (f_X3_takeNumber xBy xLe xFf_2 xFp_3 xPl_4 xVa_7 0 4) fun (r_8 : Int32) (xFf_9 : Int32) (xFp_10 : Int32) (xPl_11 : Int32) (xSo_12 : Int32) (xSt_13 : Int32) (xVa_14 : Int32) =>
    if r_8 = 0 then
      some (0, xFf_9, xFp_10, xPl_11, xSo_12, xSt_13, xVa_14, xHo, dDe)
    else
      if xVa_14 = xVa_7 then
        b3 (f_X3_fail 3 xSt_13) fun (r_37 : Int32) (xFf_38 : Int32) (xFp_39 : Int32) =>
        b1 (bz r_37) fun (z_40 : Int32) =>
        some (z_40, xFf_38, xFp_39, xPl_11, xSo_12, xSt_13, xVa_14, xHo, dDe)
      else
        b1 (f_X1_debt dDe xVa_7 xVa_14) fun (r_15 : Int32) =>
        if r_15 ≤ 0 then
          b7 (f_X3_takeNumber xBy xLe xFf_9 xFp_10 xPl_11 xVa_14 1 99) fun (r_16 : Int32) (xFf_17 : Int32) (xFp_18 : Int32) (xPl_19 : Int32) (xSo_20 : Int32) (xSt_21 : Int32) (xVa_22 : Int32) =>
          if r_16 = 0 then
            some (0, xFf_17, xFp_18, xPl_19, xSo_20, xSt_21, xVa_22, xHo, dDe)
          else
            b1 (f_X1_setDebt dDe xVa_7 xVa_14 xVa_22) fun (dDe_23 : (Nat → Int32)) =>
            b1 (some (if xVa_7 < xVa_14 then xVa_14 else xVa_7)) fun (z_24 : Int32) =>
            b1 (some (if xHo < z_24 then z_24 else xHo)) fun (z_25 : Int32) =>
            b6 (f_X3_takeSemicolon xBy xLe xFf_17 xFp_18 xPl_19) fun (r_26 : Int32) (xFf_27 : Int32) (xFp_28 : Int32) (xPl_29 : Int32) (xSo_30 : Int32) (xSt_31 : Int32) =>
            b1 (bz r_26) fun (z_32 : Int32) =>
            some (z_32, xFf_27, xFp_28, xPl_29, xSo_30, xSt_31, xVa_22, z_25, dDe_23)
        else
          b3 (f_X3_fail 4 xSt_13) fun (r_33 : Int32) (xFf_34 : Int32) (xFp_35 : Int32) =>
          b1 (bz r_33) fun (z_36 : Int32) =>
          some (z_36, xFf_34, xFp_35, xPl_11, xSo_12, xSt_13, xVa_14, xHo, dDe)
def f_X3_takeDry (xBy : (Nat → Int32)) (xLe : Int32) (xFf : Int32) (xFp : Int32) (xPl : Int32) (xSo : Int32) (xSt : Int32) (xVa : Int32) (xDt : Int32) (dDr : Int32) : Option (Int32 × Int32 × Int32 × Int32 × Int32 × Int32 × Int32 × Int32 × Int32) :=
  if xDt = 0 then
    b7 (f_X3_takeNumber xBy xLe xFf xFp xPl xVa 0 9) fun (r_1 : Int32) (xFf_2 : Int32) (xFp_3 : Int32) (xPl_4 : Int32) (xSo_5 : Int32) (xSt_6 : Int32) (xVa_7 : Int32) =>
    if r_1 = 0 then
      some (0, xFf_2, xFp_3, xPl_4, xSo_5, xSt_6, xVa_7, 1, dDr)
    else
      b6 (f_X3_takeSemicolon xBy xLe xFf_2 xFp_3 xPl_4) fun (r_8 : Int32) (xFf_9 : Int32) (xFp_10 : Int32) (xPl_11 : Int32) (xSo_12 : Int32) (xSt_13 : Int32) =>
      b1 (bz r_8) fun (z_14 : Int32) =>
      some (z_14, xFf_9, xFp_10, xPl_11, xSo_12, xSt_13, xVa_7, 1, xVa_7)
  else
    b3 (f_X3_fail 4 xSt) fun (r_15 : Int32) (xFf_16 : Int32) (xFp_17 : Int32) =>
    b1 (bz r_15) fun (z_18 : Int32) =>
    some (z_18, xFf_16, xFp_17, xPl, xSo, xSt, xVa, xDt, dDr)
def f_X4_behind (xRo : (Nat → Int32)) (xSz : Int32) (p1 : Int32) : Option (Int32) :=
  if xSz ≤ (p1 + 1) then
    b1 (rd xRo 5 0) fun (a_1 : Int32) =>
    some a_1
  else
    b1 (rd xRo 5 (p1 + 1)) fun (a_2 : Int32) =>
    some a_2
def f_X4_stands_L2 (xRo : (Nat → Int32)) (p1 : Int32) (p2 : Int32) : Nat → Int32 → Option ((Int32) ⊕ (Unit))
  | 0, _ => none
  | n + 1, v3_1 =>
    if p2 ≤ v3_1 then
      some (Sum.inr ())
    else
      b1 (rd xRo 5 v3_1) fun (a_2 : Int32) =>
      if a_2 = p1 then
        some (Sum.inl 1)
      else
        f_X4_stands_L2 xRo p1 p2 n (v3_1 + 1)
def f_X4_stands (xRo : (Nat → Int32)) (p1 : Int32) (p2 : Int32) : Option (Int32) :=
  bs1 (f_X4_stands_L2 xRo p1 p2 400 0) fun (_ : Unit) =>
  some 0
def f_X4_closes_5_L47 (xRo : (Nat → Int32)) (nPe : Int32) (nDe : (Nat → Int32)) (a_1 : Int32) : Nat → Int32 → Option ((Int32 × (Nat → Int32)) ⊕ (Unit))
  | 0, _ => none
  | n + 1, v4_3 =>
    if nPe ≤ v4_3 then
      some (Sum.inr ())
    else
      b1 (f_X1_debt nDe a_1 v4_3) fun (r_4 : Int32) =>
      if r_4 ≤ 0 then
        f_X4_closes_5_L47 xRo nPe nDe a_1 n (v4_3 + 1)
      else
        b1 (f_X4_stands xRo v4_3 5) fun (r_5 : Int32) =>
        if r_5 = 0 then
          b1 (wr xRo 5 5 v4_3) fun (xRo_6 : Nat → Int32) =>
          none
        else
          f_X4_closes_5_L47 xRo nPe nDe a_1 n (v4_3 + 1)
def f_X4_closes_5 (xRo : (Nat → Int32)) (xSz : Int32) (nPe : Int32) (nDe : (Nat → Int32)) : Option (Int32 × (Nat → Int32)) :=
  b1 (rd xRo 5 4) fun (a_1 : Int32) =>
  if 5 < xSz then
    b1 (rd xRo 5 0) fun (a_2 : Int32) =>
    bs1 (f_X4_closes_5_L47 xRo nPe nDe a_1 400 (a_2 + 1)) fun (_ : Unit) =>
    some (0, xRo)
  else
    b1 (rd xRo 5 0) fun (a_7 : Int32) =>
    b1 (f_X1_debt nDe a_1 a_7) fun (r_8 : Int32) =>
    if r_8 ≤ 0 then
      some (0, xRo)
    else
      some (1, xRo)
def f_X4_closes_4_L47 (xSz : Int32) (nPe : Int32) (nDe : (Nat → Int32)) (a_1 : Int32) : Nat → Int32 → (Nat → Int32) → Option ((Int32 × (Nat → Int32)) ⊕ ((Nat → Int32)))
  | 0, _, _ => none
  | n + 1, v4_3, xRo_4 =>
    if nPe ≤ v4_3 then
      some (Sum.inr xRo_4)
    else
      b1 (f_X1_debt nDe a_1 v4_3) fun (r_6 : Int32) =>
      if r_6 ≤ 0 then
        f_X4_closes_4_L47 xSz nPe nDe a_1 n (v4_3 + 1) xRo_4
      else
        b1 (f_X4_stands xRo_4 v4_3 4) fun (r_7 : Int32) =>
        if r_7 = 0 then
          b1 (wr xRo_4 5 4 v4_3) fun (xRo_8 : Nat → Int32) =>
          b2 (f_X4_closes_5 xRo_8 xSz nPe nDe) fun (r_9 : Int32) (xRo_10 : (Nat → Int32)) =>
          if r_9 = 0 then
            f_X4_closes_4_L47 xSz nPe nDe a_1 n (v4_3 + 1) xRo_10
          else
            some (Sum.inl (1, xRo_10))
        else
          f_X4_closes_4_L47 xSz nPe nDe a_1 n (v4_3 + 1) xRo_4
def f_X4_closes_4 (xRo : (Nat → Int32)) (xSz : Int32) (nPe : Int32) (nDe : (Nat → Int32)) : Option (Int32 × (Nat → Int32)) :=
  b1 (rd xRo 5 3) fun (a_1 : Int32) =>
  if 4 < xSz then
    b1 (rd xRo 5 0) fun (a_2 : Int32) =>
    bs1 (f_X4_closes_4_L47 xSz nPe nDe a_1 400 (a_2 + 1) xRo) fun (xRo_5 : (Nat → Int32)) =>
    some (0, xRo_5)
  else
    b1 (rd xRo 5 0) fun (a_11 : Int32) =>
    b1 (f_X1_debt nDe a_1 a_11) fun (r_12 : Int32) =>
    if r_12 ≤ 0 then
      some (0, xRo)
    else
      some (1, xRo)
def f_X4_closes_3_L47 (xSz : Int32) (nPe : Int32) (nDe : (Nat → Int32)) (a_1 : Int32) : Nat → Int32 → (Nat → Int32) → Option ((Int32 × (Nat → Int32)) ⊕ ((Nat → Int32)))
  | 0, _, _ => none
  | n + 1, v4_3, xRo_4 =>
    if nPe ≤ v4_3 then
      some (Sum.inr xRo_4)
    else
      b1 (f_X1_debt nDe a_1 v4_3) fun (r_6 : Int32) =>
      if r_6 ≤ 0 then
        f_X4_closes_3_L47 xSz nPe nDe a_1 n (v4_3 + 1) xRo_4
      else
        b1 (f_X4_stands xRo_4 v4_3 3) fun (r_7 : Int32) =>
        if r_7 = 0 then
          b1 (wr xRo_4 5 3 v4_3) fun (xRo_8 : Nat → Int32) =>
          b2 (f_X4_closes_4 xRo_8 xSz nPe nDe) fun (r_9 : Int32) (xRo_10 : (Nat → Int32)) =>
          if r_9 = 0 then
            f_X4_closes_3_L47 xSz nPe nDe a_1 n (v4_3 + 1) xRo_10
          else
            some (Sum.inl (1, xRo_10))
        else
          f_X4_closes_3_L47 xSz nPe nDe a_1 n (v4_3 + 1) xRo_4
def f_X4_closes_3 (xRo : (Nat → Int32)) (xSz : Int32) (nPe : Int32) (nDe : (Nat → Int32)) : Option (Int32 × (Nat → Int32)) :=
  b1 (rd xRo 5 2) fun (a_1 : Int32) =>
  if 3 < xSz then
    b1 (rd xRo 5 0) fun (a_2 : Int32) =>
    bs1 (f_X4_closes_3_L47 xSz nPe nDe a_1 400 (a_2 + 1) xRo) fun (xRo_5 : (Nat → Int32)) =>
    some (0, xRo_5)
  else
    b1 (rd xRo 5 0) fun (a_11 : Int32) =>
    b1 (f_X1_debt nDe a_1 a_11) fun (r_12 : Int32) =>
    if r_12 ≤ 0 then
      some (0, xRo)
    else
      some (1, xRo)
def f_X4_closes_2_L47 (xSz : Int32) (nPe : Int32) (nDe : (Nat → Int32)) (a_1 : Int32) : Nat → Int32 → (Nat → Int32) → Option ((Int32 × (Nat → Int32)) ⊕ ((Nat → Int32)))
  | 0, _, _ => none
  | n + 1, v4_3, xRo_4 =>
    if nPe ≤ v4_3 then
      some (Sum.inr xRo_4)
    else
      b1 (f_X1_debt nDe a_1 v4_3) fun (r_6 : Int32) =>
      if r_6 ≤ 0 then
        f_X4_closes_2_L47 xSz nPe nDe a_1 n (v4_3 + 1) xRo_4
      else
        b1 (f_X4_stands xRo_4 v4_3 2) fun (r_7 : Int32) =>
        if r_7 = 0 then
          b1 (wr xRo_4 5 2 v4_3) fun (xRo_8 : Nat → Int32) =>
          b2 (f_X4_closes_3 xRo_8 xSz nPe nDe) fun (r_9 : Int32) (xRo_10 : (Nat → Int32)) =>
          if r_9 = 0 then
            f_X4_closes_2_L47 xSz nPe nDe a_1 n (v4_3 + 1) xRo_10
          else
            some (Sum.inl (1, xRo_10))
        else
          f_X4_closes_2_L47 xSz nPe nDe a_1 n (v4_3 + 1) xRo_4
def f_X4_closes_2 (xRo : (Nat → Int32)) (xSz : Int32) (nPe : Int32) (nDe : (Nat → Int32)) : Option (Int32 × (Nat → Int32)) :=
  b1 (rd xRo 5 1) fun (a_1 : Int32) =>
  if 2 < xSz then
    b1 (rd xRo 5 0) fun (a_2 : Int32) =>
    bs1 (f_X4_closes_2_L47 xSz nPe nDe a_1 400 (a_2 + 1) xRo) fun (xRo_5 : (Nat → Int32)) =>
    some (0, xRo_5)
  else
    b1 (rd xRo 5 0) fun (a_11 : Int32) =>
    b1 (f_X1_debt nDe a_1 a_11) fun (r_12 : Int32) =>
    if r_12 ≤ 0 then
      some (0, xRo)
    else
      some (1, xRo)
def f_X4_closes_1_L47 (xSz : Int32) (nPe : Int32) (nDe : (Nat → Int32)) (a_1 : Int32) : Nat → Int32 → (Nat → Int32) → Option ((Int32 × (Nat → Int32)) ⊕ ((Nat → Int32)))
  | 0, _, _ => none
  | n + 1, v4_3, xRo_4 =>
    if nPe ≤ v4_3 then
      some (Sum.inr xRo_4)
    else
      b1 (f_X1_debt nDe a_1 v4_3) fun (r_6 : Int32) =>
      if r_6 ≤ 0 then
        f_X4_closes_1_L47 xSz nPe nDe a_1 n (v4_3 + 1) xRo_4
      else
        b1 (f_X4_stands xRo_4 v4_3 1) fun (r_7 : Int32) =>
        if r_7 = 0 then
          b1 (wr xRo_4 5 1 v4_3) fun (xRo_8 : Nat → Int32) =>
          b2 (f_X4_closes_2 xRo_8 xSz nPe nDe) fun (r_9 : Int32) (xRo_10 : (Nat → Int32)) =>
          if r_9 = 0 then
            f_X4_closes_1_L47 xSz nPe nDe a_1 n (v4_3 + 1) xRo_10
          else
            some (Sum.inl (1, xRo_10))
        else
          f_X4_closes_1_L47 xSz nPe nDe a_1 n (v4_3 + 1) xRo_4
def f_X4_closes_1 (xRo : (Nat → Int32)) (xSz : Int32) (nPe : Int32) (nDe : (Nat → Int32)) : Option (Int32 × (Nat → Int32)) :=
  b1 (rd xRo 5 0) fun (a_1 : Int32) =>
  if 1 < xSz then
    b1 (rd xRo 5 0) fun (a_2 : Int32) =>
    bs1 (f_X4_closes_1_L47 xSz nPe nDe a_1 400 (a_2 + 1) xRo) fun (xRo_5 : (Nat → Int32)) =>
    some (0, xRo_5)
  else
    b1 (rd xRo 5 0) fun (a_11 : Int32) =>
    b1 (f_X1_debt nDe a_1 a_11) fun (r_12 : Int32) =>
    if r_12 ≤ 0 then
      some (0, xRo)
    else
      some (1, xRo)
def f_X4_find_L17 (nPe : Int32) (nDe : (Nat → Int32)) (v2_1 : Int32) : Nat → Int32 → (Nat → Int32) → Option ((Int32 × (Nat → Int32) × Int32) ⊕ ((Nat → Int32)))
  | 0, _, _ => none
  | n + 1, v3_6, xRo_7 =>
    if nPe ≤ v3_6 then
      some (Sum.inr xRo_7)
    else
      b1 (wr xRo_7 5 0 v3_6) fun (xRo_9 : Nat → Int32) =>
      b2 (f_X4_closes_1 xRo_9 v2_1 nPe nDe) fun (r_10 : Int32) (xRo_11 : (Nat → Int32)) =>
      if r_10 = 0 then
        f_X4_find_L17 nPe nDe v2_1 n (v3_6 + 1) xRo_11
      else
        some (Sum.inl (1, xRo_11, v2_1))
def f_X4_find_L2 (nPe : Int32) (nDe : (Nat → Int32)) : Nat → Int32 → (Nat → Int32) → Int32 → Option ((Int32 × (Nat → Int32) × Int32) ⊕ ((Nat → Int32) × Int32))
  | 0, _, _, _ => none
  | n + 1, v2_1, xRo_2, xSz_3 =>
    if nPe < v2_1 then
      some (Sum.inr (xRo_2, xSz_3))
    else
      bt1 (f_X4_find_L17 nPe nDe v2_1 400 0 xRo_2) fun (xRo_8 : (Nat → Int32)) =>
      f_X4_find_L2 nPe nDe n (v2_1 + 1) xRo_8 v2_1
def f_X4_find (xRo : (Nat → Int32)) (xSz : Int32) (nPe : Int32) (nDe : (Nat → Int32)) : Option (Int32 × (Nat → Int32) × Int32) :=
  bs2 (f_X4_find_L2 nPe nDe 400 2 xRo xSz) fun (xRo_4 : (Nat → Int32)) (xSz_5 : Int32) =>
  some (0, xRo_4, 0)
def f_X4_leastDebt_L5 (xRo : (Nat → Int32)) (xSz : Int32) (nDe : (Nat → Int32)) : Nat → Int32 → Int32 → Option (Int32)
  | 0, _, _ => none
  | n + 1, v2_1, v3_2 =>
    if xSz ≤ v3_2 then
      some v2_1
    else
      b1 (rd xRo 5 v3_2) fun (a_4 : Int32) =>
      b1 (f_X4_behind xRo xSz v3_2) fun (r_5 : Int32) =>
      b1 (f_X1_debt nDe a_4 r_5) fun (r_6 : Int32) =>
      b1 (some (if r_6 < v2_1 then r_6 else v2_1)) fun (z_7 : Int32) =>
      f_X4_leastDebt_L5 xRo xSz nDe n z_7 (v3_2 + 1)
def f_X4_leastDebt (xRo : (Nat → Int32)) (xSz : Int32) (nDe : (Nat → Int32)) : Option (Int32) :=
  b1 (f_X4_leastDebt_L5 xRo xSz nDe 400 99 0) fun (v2_3 : Int32) =>
  some v2_3
def f_X4_lessen_L2 (xRo : (Nat → Int32)) (xSz : Int32) (p2 : Int32) : Nat → Int32 → (Nat → Int32) → Option ((Nat → Int32))
  | 0, _, _ => none
  | n + 1, v3_1, nDe_2 =>
    if xSz ≤ v3_1 then
      some nDe_2
    else
      b1 (rd xRo 5 v3_1) fun (a_4 : Int32) =>
      b1 (f_X4_behind xRo xSz v3_1) fun (r_5 : Int32) =>
      b1 (rd xRo 5 v3_1) fun (a_6 : Int32) =>
      b1 (f_X4_behind xRo xSz v3_1) fun (r_7 : Int32) =>
      b1 (f_X1_debt nDe_2 a_6 r_7) fun (r_8 : Int32) =>
      b1 (f_X1_setDebt nDe_2 a_4 r_5 (r_8 - p2)) fun (nDe_9 : (Nat → Int32)) =>
      f_X4_lessen_L2 xRo xSz p2 n (v3_1 + 1) nDe_9
def f_X4_lessen (xRo : (Nat → Int32)) (xSz : Int32) (nDe : (Nat → Int32)) (p2 : Int32) : Option ((Nat → Int32)) :=
  b1 (f_X4_lessen_L2 xRo xSz p2 400 0 nDe) fun (nDe_3 : (Nat → Int32)) =>
  some nDe_3
def f_X5_add (xDy : (Nat → Int32)) (xWo : (Nat → Int32)) (xRi : (Nat → Int32)) (xSz : Int32) (p1 : Int32) (p2 : Int32) (p3 : Int32) : Option ((Nat → Int32) × (Nat → Int32) × (Nat → Int32) × Int32) :=
  if 6 ≤ xSz then
    some (xDy, xWo, xRi, xSz)
  else
    b1 (wr xDy 6 xSz p1) fun (xDy_1 : Nat → Int32) =>
    b1 (wr xWo 6 xSz p2) fun (xWo_2 : Nat → Int32) =>
    b1 (
      if p3 = 0 then
        some 0
      else
        some 1) fun (t_3 : Int32) =>
    b1 (wr xRi 6 xSz t_3) fun (xRi_4 : Nat → Int32) =>
    some (xDy_1, xWo_2, xRi_4, xSz + 1)
def f_X5_become (oDy : (Nat → Int32)) (oWo : (Nat → Int32)) (oRi : (Nat → Int32)) (oSz : Int32) : Option ((Nat → Int32) × (Nat → Int32) × (Nat → Int32) × Int32) :=
  some (oDy, oWo, oRi, oSz)
def f_X5_lastDay_L4 (xDy : (Nat → Int32)) (xSz : Int32) : Nat → Int32 → Int32 → Option (Int32)
  | 0, _, _ => none
  | n + 1, v1_1, v2_2 =>
    if xSz ≤ v2_2 then
      some v1_1
    else
      b1 (rd xDy 6 v2_2) fun (a_4 : Int32) =>
      b1 (some (if v1_1 < a_4 then a_4 else v1_1)) fun (z_5 : Int32) =>
      f_X5_lastDay_L4 xDy xSz n z_5 (v2_2 + 1)
def f_X5_lastDay (xDy : (Nat → Int32)) (xSz : Int32) : Option (Int32) :=
  b1 (f_X5_lastDay_L4 xDy xSz 400 (-1) 0) fun (v1_3 : Int32) =>
  some v1_3
def f_X5_fitsOn_L2 (xDy : (Nat → Int32)) (xWo : (Nat → Int32)) (xRi : (Nat → Int32)) (xSz : Int32) (nPe : Int32) (nDe : (Nat → Int32)) (p1 : Int32) : Nat → Int32 → Option ((Int32) ⊕ (Unit))
  | 0, _ => none
  | n + 1, v3_1 =>
    if xSz ≤ v3_1 then
      some (Sum.inr ())
    else
      b1 (rd xDy 6 v3_1) fun (a_2 : Int32) =>
      if a_2 = p1 then
        b1 (rd xWo 6 v3_1) fun (a_3 : Int32) =>
        b1 (f_X1_isRiding nPe nDe a_3) fun (r_4 : Int32) =>
        b1 (rd xRi 6 v3_1) fun (a_5 : Int32) =>
        b1 (
          if a_5 = 1 then
            some 1
          else
            some 0) fun (t_6 : Int32) =>
        if r_4 = t_6 then
          f_X5_fitsOn_L2 xDy xWo xRi xSz nPe nDe p1 n (v3_1 + 1)
        else
          some (Sum.inl 0)
      else
        f_X5_fitsOn_L2 xDy xWo xRi xSz nPe nDe p1 n (v3_1 + 1)
def f_X5_fitsOn (xDy : (Nat → Int32)) (xWo : (Nat → Int32)) (xRi : (Nat → Int32)) (xSz : Int32) (nPe : Int32) (nDe : (Nat → Int32)) (p1 : Int32) : Option (Int32) :=
  bs1 (f_X5_fitsOn_L2 xDy xWo xRi xSz nPe nDe p1 400 0) fun (_ : Unit) =>
  some 1
def f_X5_fits_L7 (xDy : (Nat → Int32)) (xWo : (Nat → Int32)) (xRi : (Nat → Int32)) (xSz : Int32) (nPe : Int32) (nDr : Int32) (nNa : (Nat → Int32)) (nWa : (Nat → Int32)) (r_1 : Int32) : Nat → Int32 → Int32 → (Nat → Int32) → (Nat → Int32) → Option ((Int32 × Int32 × (Nat → Int32) × (Nat → Int32)) ⊕ (Int32 × (Nat → Int32) × (Nat → Int32)))
  | 0, _, _, _, _ => none
  | n + 1, v3_2, nDa_3, nMo_4, nDe_5 =>
    if r_1 < v3_2 then
      some (Sum.inr (nDa_3, nMo_4, nDe_5))
    else
      b1 (f_X5_fitsOn xDy xWo xRi xSz nPe nDe_5 v3_2) fun (r_9 : Int32) =>
      if r_9 = 0 then
        some (Sum.inl (0, nDa_3, nMo_4, nDe_5))
      else
        b4 (f_X1_runDay nPe nDa_3 nNa nMo_4 nWa nDe_5 nDr) fun (r_10 : Int32) (nDa_11 : Int32) (nMo_12 : (Nat → Int32)) (nDe_13 : (Nat → Int32)) =>
        f_X5_fits_L7 xDy xWo xRi xSz nPe nDr nNa nWa r_1 n (v3_2 + 1) nDa_11 nMo_12 nDe_13
def f_X5_fits (xDy : (Nat → Int32)) (xWo : (Nat → Int32)) (xRi : (Nat → Int32)) (xSz : Int32) (nPe : Int32) (nDa : Int32) (nDr : Int32) (nNa : (Nat → Int32)) (nMo : (Nat → Int32)) (nWa : (Nat → Int32)) (nDe : (Nat → Int32)) : Option (Int32 × Int32 × (Nat → Int32) × (Nat → Int32)) :=
  b1 (f_X5_lastDay xDy xSz) fun (r_1 : Int32) =>
  bs3 (f_X5_fits_L7 xDy xWo xRi xSz nPe nDr nNa nWa r_1 400 0 nDa nMo nDe) fun (nDa_6 : Int32) (nMo_7 : (Nat → Int32)) (nDe_8 : (Nat → Int32)) =>
  some (1, nDa_6, nMo_7, nDe_8)
def f_X6_faultOfLaying (xTh : Int32) (xSz : Int32) (p1 : Int32) : Option (Int32) :=
  if xTh = 0 then
    some 1
  else
    if p1 < 0 then
      some 2
    else
      if xSz ≤ p1 then
        some 2
      else
        some 0
def f_X6_faultOfReading (xTh : Int32) (xLa : Int32) (xSz : Int32) (p1 : Int32) (p2 : Int32) : Option (Int32) :=
  if xTh = 0 then
    some 1
  else
    if p1 = xLa then
      if p2 < 0 then
        some 2
      else
        if (xSz - 3) < p2 then
          some 2
        else
          some 0
    else
      some 3
def f_X6_put (xLa : Int32) (xCe : (Nat → Int32)) (p1 : Int32) (p2 : Int32) : Option ((Nat → Int32)) :=
  if xLa = 0 then
    b1 (wr xCe 40 p1 p2.toInt8.toInt32) fun (xCe_3 : Nat → Int32) =>
    some xCe_3
  else
    if xLa = 1 then
      b1 (wr xCe 40 p1 p2.toInt16.toInt32) fun (xCe_2 : Nat → Int32) =>
      some xCe_2
    else
      b1 (wr xCe 40 p1 p2) fun (xCe_1 : Nat → Int32) =>
      some xCe_1
def f_X6_renew (p1 : Int32) (p2 : Int32) : Option (Int32 × Int32 × Int32 × (Nat → Int32)) :=
  some (1, p1, p2, (fun _ => 0))
def f_X8_in (p1 : Int64) (p2 : Int64) (p3 : Int64) : Option (Int32) :=
  if (lg_cmp p1 p2) < 0 then
    some 0
  else
    if 0 < (lg_cmp p1 p3) then
      some 0
    else
      some 1
def f_X8_isOne (mPeople : Int32) (p1 : Int32) : Option (Int32) :=
  b1 (f_X8_in p1.toInt64 0 ((mPeople - 1).toInt64)) fun (r_1 : Int32) =>
  b1 (bz r_1) fun (z_2 : Int32) =>
  some z_2
def f_X8_isFar (p1 : Int32) : Option (Int32) :=
  b1 (f_X8_in p1.toInt64 0 60) fun (r_1 : Int32) =>
  b1 (bz r_1) fun (z_2 : Int32) =>
  some z_2
def f_X8_starts_L2 (mSt : (Nat → Int32)) : Nat → Int32 → (Nat → Int32) → Option ((Nat → Int32))
  | 0, _, _ => none
  | n + 1, v1_1, mNow_2 =>
    if 61 ≤ v1_1 then
      some mNow_2
    else
      b1 (rd mSt 183 v1_1) fun (a_4 : Int32) =>
      b1 (wr mNow_2 61 v1_1 a_4) fun (mNow_5 : Nat → Int32) =>
      f_X8_starts_L2 mSt n (v1_1 + 1) mNow_5
def f_X8_starts (mSt : (Nat → Int32)) (mNow : (Nat → Int32)) : Option ((Nat → Int32)) :=
  b1 (f_X8_starts_L2 mSt 400 0 mNow) fun (mNow_3 : (Nat → Int32)) =>
  some mNow_3
def f_X8_of (mNow : (Nat → Int32)) (p1 : Int32) (p2 : Int32) : Option (Int32) :=
  b1 (rd mNow 61 ((3 * p1) + p2)) fun (a_1 : Int32) =>
  some a_1
def f_X8_lesser (p1 : Int32) (p2 : Int32) : Option (Int32) :=
  if p2 ≤ p1 then
    some p2
  else
    some p1
def f_X8_becomesOf (mNow : (Nat → Int32)) (p1 : Int32) (p2 : Int32) (p3 : Int32) : Option ((Nat → Int32)) :=
  b1 (wr mNow 61 ((3 * p1) + p2) p3) fun (mNow_1 : Nat → Int32) =>
  some mNow_1
def f_X8_gets (mNow : (Nat → Int32)) (p1 : Int32) (p2 : Int32) : Option ((Nat → Int32)) :=
  b1 (f_X8_of mNow p1 1) fun (r_1 : Int32) =>
  b1 (f_X8_lesser 999 (r_1 + p2)) fun (r_2 : Int32) =>
  b1 (f_X8_becomesOf mNow p1 1 r_2) fun (mNow_3 : (Nat → Int32)) =>
  some mNow_3
def f_X8_debt (mNow : (Nat → Int32)) (p1 : Int32) (p2 : Int32) : Option (Int32) :=
  b1 (rd mNow 61 ((15 + (5 * p1)) + p2)) fun (a_1 : Int32) =>
  some a_1
def f_X8_owesAll_L4 (mNow : (Nat → Int32)) (mPeople : Int32) (p1 : Int32) : Nat → Int32 → Int32 → Option (Int32)
  | 0, _, _ => none
  | n + 1, v2_1, v3_2 =>
    if mPeople ≤ v3_2 then
      some v2_1
    else
      b1 (f_X8_debt mNow p1 v3_2) fun (r_4 : Int32) =>
      f_X8_owesAll_L4 mNow mPeople p1 n (v2_1 + r_4) (v3_2 + 1)
def f_X8_owesAll (mNow : (Nat → Int32)) (mPeople : Int32) (p1 : Int32) : Option (Int32) :=
  b1 (f_X8_owesAll_L4 mNow mPeople p1 400 0 0) fun (v2_3 : Int32) =>
  some v2_3
def f_X8_will (mNow : (Nat → Int32)) (mPeople : Int32) (p1 : Int32) : Option (Int32) :=
  b1 (f_X8_of mNow p1 1) fun (r_1 : Int32) =>
  b1 (f_X8_of mNow p1 0) fun (r_2 : Int32) =>
  if r_2 = 1 then
    some (r_1 / 2)
  else
    if r_2 = 2 then
      some (r_1 / 4)
    else
      if r_2 = 3 then
        b1 (f_X8_owesAll mNow mPeople p1) fun (r_3 : Int32) =>
        if r_3 < 10 then
          some 0
        else
          some (r_1 / 2)
      else
        some r_1
def f_X8_paysTo (mNow : (Nat → Int32)) (p1 : Int32) (p2 : Int32) (p3 : Int32) : Option ((Nat → Int32)) :=
  b1 (rd mNow 61 ((15 + (5 * p1)) + p2)) fun (a_1 : Int32) =>
  b1 (wr mNow 61 ((15 + (5 * p1)) + p2) (a_1 - p3)) fun (mNow_2 : Nat → Int32) =>
  b1 (f_X8_of mNow_2 p1 1) fun (r_3 : Int32) =>
  b1 (f_X8_becomesOf mNow_2 p1 1 (r_3 - p3)) fun (mNow_4 : (Nat → Int32)) =>
  b1 (f_X8_gets mNow_4 p2 p3) fun (mNow_5 : (Nat → Int32)) =>
  some mNow_5
def f_X8_dayGoes_L2 (mPeople : Int32) : Nat → Int32 → (Nat → Int32) → Option ((Nat → Int32))
  | 0, _, _ => none
  | n + 1, v1_1, mNow_2 =>
    if mPeople ≤ v1_1 then
      some mNow_2
    else
      b1 (f_X8_of mNow_2 v1_1 2) fun (r_4 : Int32) =>
      b1 (rd mNow_2 61 41) fun (a_5 : Int32) =>
      b1 (
        if (r_4 - a_5) ≤ 0 then
          some 0
        else
          some (r_4 - a_5)) fun (t_6 : Int32) =>
      b1 (f_X8_gets mNow_2 v1_1 t_6) fun (mNow_7 : (Nat → Int32)) =>
      f_X8_dayGoes_L2 mPeople n (v1_1 + 1) mNow_7
def f_X8_dayGoes_L63 (mPeople : Int32) (v1_8 : Int32) : Nat → Int32 → Int32 → (Nat → Int32) → Int32 → Option ((Nat → Int32) × Int32)
  | 0, _, _, _, _ => none
  | n + 1, v2_14, v3_15, mNow_16, mPaid_17 =>
    if mPeople ≤ v3_15 then
      some (mNow_16, mPaid_17)
    else
      b1 (f_X8_debt mNow_16 v1_8 v3_15) fun (r_20 : Int32) =>
      b1 (f_X8_lesser v2_14 r_20) fun (r_21 : Int32) =>
      if r_21 ≤ 0 then
        f_X8_dayGoes_L63 mPeople v1_8 n v2_14 (v3_15 + 1) mNow_16 mPaid_17
      else
        b1 (f_X8_paysTo mNow_16 v1_8 v3_15 r_21) fun (mNow_22 : (Nat → Int32)) =>
        f_X8_dayGoes_L63 mPeople v1_8 n (v2_14 - r_21) (v3_15 + 1) mNow_22 (mPaid_17 + r_21)
def f_X8_dayGoes_L47 (mPeople : Int32) : Nat → Int32 → (Nat → Int32) → Int32 → Option ((Nat → Int32) × Int32)
  | 0, _, _, _ => none
  | n + 1, v1_8, mNow_9, mPaid_10 =>
    if mPeople ≤ v1_8 then
      some (mNow_9, mPaid_10)
    else
      b1 (f_X8_will mNow_9 mPeople v1_8) fun (r_13 : Int32) =>
      b2 (f_X8_dayGoes_L63 mPeople v1_8 400 r_13 0 mNow_9 mPaid_10) fun (mNow_18 : (Nat → Int32)) (mPaid_19 : Int32) =>
      f_X8_dayGoes_L47 mPeople n (v1_8 + 1) mNow_18 mPaid_19
def f_X8_dayGoes (mNow : (Nat → Int32)) (mPeople : Int32) (mPaid : Int32) : Option ((Nat → Int32) × Int32) :=
  b1 (f_X8_dayGoes_L2 mPeople 400 0 mNow) fun (mNow_3 : (Nat → Int32)) =>
  b2 (f_X8_dayGoes_L47 mPeople 400 0 mNow_3 mPaid) fun (mNow_11 : (Nat → Int32)) (mPaid_12 : Int32) =>
  b1 (rd mNow_11 61 40) fun (a_23 : Int32) =>
  b1 (wr mNow_11 61 40 (a_23 + 1)) fun (mNow_24 : Nat → Int32) =>
  some (mNow_24, mPaid_12)
def f_X8_daysGo_L7 (mPeople : Int32) (p1 : Int32) : Nat → Int32 → (Nat → Int32) → Int32 → Option ((Nat → Int32) × Int32)
  | 0, _, _, _ => none
  | n + 1, v2_1, mNow_2, mPaid_3 =>
    if p1 ≤ v2_1 then
      some (mNow_2, mPaid_3)
    else
      b2 (f_X8_dayGoes mNow_2 mPeople mPaid_3) fun (mNow_6 : (Nat → Int32)) (mPaid_7 : Int32) =>
      f_X8_daysGo_L7 mPeople p1 n (v2_1 + 1) mNow_6 mPaid_7
def f_X8_daysGo (mNow : (Nat → Int32)) (mPeople : Int32) (p1 : Int32) : Option ((Nat → Int32) × Int32) :=
  b2 (f_X8_daysGo_L7 mPeople p1 400 0 mNow 0) fun (mNow_4 : (Nat → Int32)) (mPaid_5 : Int32) =>
  some (mNow_4, mPaid_5)
def f_X8_isOwed_L4 (mNow : (Nat → Int32)) (mPeople : Int32) (p1 : Int32) : Nat → Int32 → Int32 → Option (Int32)
  | 0, _, _ => none
  | n + 1, v2_1, v3_2 =>
    if mPeople ≤ v3_2 then
      some v2_1
    else
      b1 (f_X8_debt mNow v3_2 p1) fun (r_4 : Int32) =>
      f_X8_isOwed_L4 mNow mPeople p1 n (v2_1 + r_4) (v3_2 + 1)
def f_X8_isOwed (mNow : (Nat → Int32)) (mPeople : Int32) (p1 : Int32) : Option (Int32) :=
  b1 (f_X8_isOwed_L4 mNow mPeople p1 400 0 0) fun (v2_3 : Int32) =>
  some v2_3
def f_X8_height (mNow : (Nat → Int32)) (mPeople : Int32) (p1 : Int32) : Option (Int32) :=
  b1 (f_X8_isOwed mNow mPeople p1) fun (r_1 : Int32) =>
  b1 (f_X8_owesAll mNow mPeople p1) fun (r_2 : Int32) =>
  if r_2 ≤ 0 then
    b1 (f_X8_of mNow p1 0) fun (r_3 : Int32) =>
    if r_3 = 1 then
      some ((r_1 + 1) / 2)
    else
      if r_3 = 2 then
        some ((2 * r_1) + 1)
      else
        if r_3 = 3 then
          if ((r_1 + 1) / 2) ≤ 0 then
            some 0
          else
            some (((r_1 + 1) / 2) - 1)
        else
          some r_1
  else
    some 0
def f_X8_ahead (mSt : (Nat → Int32)) (mNow : (Nat → Int32)) (mPeople : Int32) (mPaid : Int32) (p1 : Int32) (p2 : Int32) (p3 : Int32) : Option (Int32 × (Nat → Int32) × Int32) :=
  b1 (f_X8_isOne mPeople p1) fun (r_1 : Int32) =>
  if r_1 = 0 then
    some ((-1), mNow, mPaid)
  else
    b1 (f_X8_isFar p2) fun (r_2 : Int32) =>
    if r_2 = 0 then
      some ((-1), mNow, mPaid)
    else
      b1 (f_X8_in p3.toInt64 0 2) fun (r_3 : Int32) =>
      if r_3 = 0 then
        some ((-1), mNow, mPaid)
      else
        b1 (f_X8_starts mSt mNow) fun (mNow_4 : (Nat → Int32)) =>
        b2 (f_X8_daysGo mNow_4 mPeople p2) fun (mNow_5 : (Nat → Int32)) (mPaid_6 : Int32) =>
        if p3 = 0 then
          b1 (f_X8_owesAll mNow_5 mPeople p1) fun (r_9 : Int32) =>
          some (r_9, mNow_5, mPaid_6)
        else
          if p3 = 1 then
            b1 (f_X8_of mNow_5 p1 1) fun (r_8 : Int32) =>
            some (r_8, mNow_5, mPaid_6)
          else
            b1 (f_X8_height mNow_5 mPeople p1) fun (r_7 : Int32) =>
            some (r_7, mNow_5, mPaid_6)
def f_X8_allMoney_L4 (mNow : (Nat → Int32)) (mPeople : Int32) : Nat → Int32 → Int32 → Option (Int32)
  | 0, _, _ => none
  | n + 1, v1_1, v2_2 =>
    if mPeople ≤ v2_2 then
      some v1_1
    else
      b1 (f_X8_of mNow v2_2 1) fun (r_4 : Int32) =>
      f_X8_allMoney_L4 mNow mPeople n (v1_1 + r_4) (v2_2 + 1)
def f_X8_allMoney (mNow : (Nat → Int32)) (mPeople : Int32) : Option (Int32) :=
  b1 (f_X8_allMoney_L4 mNow mPeople 400 0 0) fun (v1_3 : Int32) =>
  some v1_3
def f_X8_allOwed_L4 (mNow : (Nat → Int32)) (mPeople : Int32) : Nat → Int32 → Int32 → Option (Int32)
  | 0, _, _ => none
  | n + 1, v1_1, v2_2 =>
    if mPeople ≤ v2_2 then
      some v1_1
    else
      b1 (f_X8_owesAll mNow mPeople v2_2) fun (r_4 : Int32) =>
      f_X8_allOwed_L4 mNow mPeople n (v1_1 + r_4) (v2_2 + 1)
def f_X8_allOwed (mNow : (Nat → Int32)) (mPeople : Int32) : Option (Int32) :=
  b1 (f_X8_allOwed_L4 mNow mPeople 400 0 0) fun (v1_3 : Int32) =>
  some v1_3
def f_X8_becomes (mSt : (Nat → Int32)) (p1 : Int32) (p2 : Int32) : Option (Int32 × (Nat → Int32)) :=
  b1 (rd mSt 183 p1) fun (a_1 : Int32) =>
  b1 (wr mSt 183 p1 p2) fun (mSt_2 : Nat → Int32) =>
  some (a_1, mSt_2)
def f_X8_alter (mSt : (Nat → Int32)) (mPeople : Int32) (p1 : Int32) (p2 : Int32) (p3 : Int32) : Option (Int32 × (Nat → Int32)) :=
  b1 (
    if p2 = 0 then
      b1 (f_X8_in p3.toInt64 0 3) fun (r_4 : Int32) =>
      some r_4
    else
      if p2 = 1 then
        b1 (f_X8_in p3.toInt64 0 999) fun (r_3 : Int32) =>
        some r_3
      else
        if p2 = 2 then
          b1 (f_X8_in p3.toInt64 0 9) fun (r_2 : Int32) =>
          if r_2 = 0 then
            some 0
          else
            some 1
        else
          some 0) fun (t_1 : Int32) =>
  b1 (f_X8_isOne mPeople p1) fun (r_5 : Int32) =>
  if r_5 = 0 then
    some ((-1), mSt)
  else
    if t_1 = 0 then
      some ((-1), mSt)
    else
      b2 (f_X8_becomes mSt ((3 * p1) + p2) p3) fun (r_6 : Int32) (mSt_7 : (Nat → Int32)) =>
      some (r_6, mSt_7)
def f_X8_areTwo (mPeople : Int32) (p1 : Int32) (p2 : Int32) : Option (Int32) :=
  b1 (f_X8_isOne mPeople p1) fun (r_1 : Int32) =>
  if r_1 = 0 then
    some 0
  else
    b1 (f_X8_isOne mPeople p2) fun (r_2 : Int32) =>
    if r_2 = 0 then
      some 0
    else
      if p1 = p2 then
        some 0
      else
        some 1
def f_X8_isPart (p1 : Int32) : Option (Int32) :=
  b1 (f_X8_in p1.toInt64 0 1) fun (r_1 : Int32) =>
  b1 (bz r_1) fun (z_2 : Int32) =>
  some z_2
def f_X8_flag (p1 : Int32) : Option (Int32) :=
  if p1 = 0 then
    some 0
  else
    some 1
def f_X8_riding_L4 (mNow : (Nat → Int32)) (mPeople : Int32) : Nat → Int32 → Int32 → Option (Int32)
  | 0, _, _ => none
  | n + 1, v1_1, v2_2 =>
    if mPeople ≤ v2_2 then
      some v1_1
    else
      b1 (f_X8_owesAll mNow mPeople v2_2) fun (r_4 : Int32) =>
      b1 (
        if r_4 = 0 then
          some 1
        else
          some 0) fun (t_5 : Int32) =>
      b1 (f_X8_flag t_5) fun (r_6 : Int32) =>
      f_X8_riding_L4 mNow mPeople n (v1_1 ||| (r_6 <<< (v2_2 &&& 31))) (v2_2 + 1)
def f_X8_riding (mNow : (Nat → Int32)) (mPeople : Int32) : Option (Int32) :=
  b1 (f_X8_riding_L4 mNow mPeople 400 0 0) fun (v1_3 : Int32) =>
  some v1_3
def f_X8_isSoWith_L14 (mPeople : Int32) : Nat → Int32 → (Nat → Int32) → Int32 → (Nat → Int32) → Option ((Nat → Int32) × Int32 × (Nat → Int32))
  | 0, _, _, _, _ => none
  | n + 1, v4_3, mNow_4, mPaid_5, mRode_6 =>
    if 30 < v4_3 then
      some (mNow_4, mPaid_5, mRode_6)
    else
      b1 (f_X8_riding mNow_4 mPeople) fun (r_10 : Int32) =>
      b1 (wr mRode_6 31 v4_3 r_10) fun (mRode_11 : Nat → Int32) =>
      b2 (f_X8_dayGoes mNow_4 mPeople mPaid_5) fun (mNow_12 : (Nat → Int32)) (mPaid_13 : Int32) =>
      f_X8_isSoWith_L14 mPeople n (v4_3 + 1) mNow_12 mPaid_13 mRode_11
def f_X8_isSoWith_L48 (mSt : (Nat → Int32)) (mRode_9 : (Nat → Int32)) : Nat → Int32 → Int32 → Option (Int32)
  | 0, _, _ => none
  | n + 1, v4_14, v5_15 =>
    b1 (rd mSt 183 42) fun (a_17 : Int32) =>
    if a_17 ≤ v5_15 then
      some v4_14
    else
      if v4_14 = 0 then
        f_X8_isSoWith_L48 mSt mRode_9 n 0 (v5_15 + 1)
      else
        b1 (rd mSt 183 (43 + (3 * v5_15))) fun (a_18 : Int32) =>
        b1 (rd mRode_9 31 a_18) fun (a_19 : Int32) =>
        b1 (rd mSt 183 ((43 + (3 * v5_15)) + 1)) fun (a_20 : Int32) =>
        b1 (rd mSt 183 ((43 + (3 * v5_15)) + 2)) fun (a_21 : Int32) =>
        if ((a_19 >>> (a_20 &&& 31)) &&& 1) = a_21 then
          f_X8_isSoWith_L48 mSt mRode_9 n 1 (v5_15 + 1)
        else
          f_X8_isSoWith_L48 mSt mRode_9 n 0 (v5_15 + 1)
def f_X8_isSoWith (mSt : (Nat → Int32)) (mNow : (Nat → Int32)) (mPeople : Int32) (mPaid : Int32) (mRode : (Nat → Int32)) (p1 : Int32) (p2 : Int32) (p3 : Int32) : Option (Int32 × (Nat → Int32) × Int32 × (Nat → Int32)) :=
  b1 (f_X8_starts mSt mNow) fun (mNow_1 : (Nat → Int32)) =>
  b1 (f_X8_becomesOf mNow_1 p1 p2 p3) fun (mNow_2 : (Nat → Int32)) =>
  b3 (f_X8_isSoWith_L14 mPeople 400 0 mNow_2 mPaid mRode) fun (mNow_7 : (Nat → Int32)) (mPaid_8 : Int32) (mRode_9 : (Nat → Int32)) =>
  b1 (f_X8_isSoWith_L48 mSt mRode_9 400 1 0) fun (v4_16 : Int32) =>
  b1 (bz v4_16) fun (z_22 : Int32) =>
  some (z_22, mNow_7, mPaid_8, mRode_9)
def f_X8_ask_L22 : Nat → Int32 → (Nat → Int32) → Option ((Nat → Int32))
  | 0, _, _ => none
  | n + 1, v4_3, mWays_4 =>
    if 30 < v4_3 then
      some mWays_4
    else
      b1 (wr mWays_4 31 v4_3 0) fun (mWays_6 : Nat → Int32) =>
      f_X8_ask_L22 n (v4_3 + 1) mWays_6
def f_X8_ask_L70 (p1 : Int32) (mRode_21 : (Nat → Int32)) : Nat → Int32 → (Nat → Int32) → Option ((Nat → Int32))
  | 0, _, _ => none
  | n + 1, v5_22, mWays_23 =>
    if 30 < v5_22 then
      some mWays_23
    else
      b1 (rd mWays_23 31 v5_22) fun (a_25 : Int32) =>
      b1 (rd mRode_21 31 v5_22) fun (a_26 : Int32) =>
      b1 (wr mWays_23 31 v5_22 (a_25 + ((a_26 >>> (p1 &&& 31)) &&& 1))) fun (mWays_27 : Nat → Int32) =>
      f_X8_ask_L70 p1 mRode_21 n (v5_22 + 1) mWays_27
def f_X8_ask_L46 (mSt : (Nat → Int32)) (mPeople : Int32) (p1 : Int32) : Nat → Int32 → Int32 → (Nat → Int32) → Int32 → (Nat → Int32) → (Nat → Int32) → Option (Int32 × (Nat → Int32) × Int32 × (Nat → Int32) × (Nat → Int32))
  | 0, _, _, _, _, _, _ => none
  | n + 1, v3_7, v4_8, mNow_9, mPaid_10, mRode_11, mWays_12 =>
    if 9 < v4_8 then
      some (v3_7, mNow_9, mPaid_10, mRode_11, mWays_12)
    else
      b4 (f_X8_isSoWith mSt mNow_9 mPeople mPaid_10 mRode_11 p1 2 v4_8) fun (r_18 : Int32) (mNow_19 : (Nat → Int32)) (mPaid_20 : Int32) (mRode_21 : (Nat → Int32)) =>
      if r_18 = 0 then
        f_X8_ask_L46 mSt mPeople p1 n v3_7 (v4_8 + 1) mNow_19 mPaid_20 mRode_21 mWays_12
      else
        b1 (f_X8_ask_L70 p1 mRode_21 400 0 mWays_12) fun (mWays_24 : (Nat → Int32)) =>
        f_X8_ask_L46 mSt mPeople p1 n (v3_7 + 1) (v4_8 + 1) mNow_19 mPaid_20 mRode_21 mWays_24
def f_X8_ask_L120 (mWays_17 : (Nat → Int32)) (v3_13 : Int32) : Nat → Int32 → Int32 → Int32 → Option (Int32 × Int32)
  | 0, _, _, _ => none
  | n + 1, v4_28, v5_29, v6_30 =>
    if 30 < v6_30 then
      some (v4_28, v5_29)
    else
      b1 (rd mWays_17 31 v6_30) fun (a_33 : Int32) =>
      b1 (rd mWays_17 31 v6_30) fun (a_34 : Int32) =>
      b1 (
        if a_33 ≤ (v3_13 - a_34) then
          b1 (rd mWays_17 31 v6_30) fun (a_36 : Int32) =>
          some (v3_13 - a_36)
        else
          b1 (rd mWays_17 31 v6_30) fun (a_37 : Int32) =>
          some a_37) fun (t_35 : Int32) =>
      b1 (
        if v4_28 ≤ t_35 then
          some v5_29
        else
          some v6_30) fun (t_38 : Int32) =>
      b1 (f_X8_lesser t_35 v4_28) fun (r_39 : Int32) =>
      f_X8_ask_L120 mWays_17 v3_13 n r_39 t_38 (v6_30 + 1)
def f_X8_ask (mSt : (Nat → Int32)) (mNow : (Nat → Int32)) (mPeople : Int32) (mPaid : Int32) (mRode : (Nat → Int32)) (mWays : (Nat → Int32)) (p1 : Int32) (p2 : Int32) : Option (Int32 × (Nat → Int32) × Int32 × (Nat → Int32) × (Nat → Int32)) :=
  b1 (f_X8_isOne mPeople p1) fun (r_1 : Int32) =>
  if r_1 = 0 then
    some ((-1), mNow, mPaid, mRode, mWays)
  else
    b1 (f_X8_isPart p2) fun (r_2 : Int32) =>
    if r_2 = 0 then
      some ((-1), mNow, mPaid, mRode, mWays)
    else
      b1 (f_X8_ask_L22 400 0 mWays) fun (mWays_5 : (Nat → Int32)) =>
      b5 (f_X8_ask_L46 mSt mPeople p1 400 0 0 mNow mPaid mRode mWays_5) fun (v3_13 : Int32) (mNow_14 : (Nat → Int32)) (mPaid_15 : Int32) (mRode_16 : (Nat → Int32)) (mWays_17 : (Nat → Int32)) =>
      b2 (f_X8_ask_L120 mWays_17 v3_13 400 v3_13 (-4) 0) fun (v4_31 : Int32) (v5_32 : Int32) =>
      if v5_32 = (-4) then
        some ((-4), mNow_14, mPaid_15, mRode_16, mWays_17)
      else
        if p2 = 0 then
          some (v5_32, mNow_14, mPaid_15, mRode_16, mWays_17)
        else
          some (v4_31, mNow_14, mPaid_15, mRode_16, mWays_17)
def f_X8_copies_L2 (p1 : Int32) (p2 : Int32) : Nat → Int32 → (Nat → Int32) → Option ((Nat → Int32))
  | 0, _, _ => none
  | n + 1, v3_1, mSt_2 =>
    if 61 ≤ v3_1 then
      some mSt_2
    else
      b1 (rd mSt_2 183 (p2 + v3_1)) fun (a_4 : Int32) =>
      b1 (wr mSt_2 183 (p1 + v3_1) a_4) fun (mSt_5 : Nat → Int32) =>
      f_X8_copies_L2 p1 p2 n (v3_1 + 1) mSt_5
def f_X8_copies (mSt : (Nat → Int32)) (p1 : Int32) (p2 : Int32) : Option ((Nat → Int32)) :=
  b1 (f_X8_copies_L2 p1 p2 400 0 mSt) fun (mSt_3 : (Nat → Int32)) =>
  some mSt_3
def f_X8_back (mSt : (Nat → Int32)) (mIsKept : (Nat → Int32)) (p1 : Int32) : Option (Int32 × (Nat → Int32)) :=
  b1 (f_X8_in p1.toInt64 0 1) fun (r_1 : Int32) =>
  if r_1 = 0 then
    some ((-1), mSt)
  else
    b1 (rd mIsKept 2 p1) fun (a_2 : Int32) =>
    if a_2 = 0 then
      some ((-2), mSt)
    else
      b1 (f_X8_copies mSt 0 (61 * (p1 + 1))) fun (mSt_3 : (Nat → Int32)) =>
      b1 (rd mSt_3 183 40) fun (a_4 : Int32) =>
      some (a_4, mSt_3)
def f_X8_bond (mSt : (Nat → Int32)) (mPeople : Int32) (p1 : Int32) (p2 : Int32) (p3 : Int32) : Option (Int32 × (Nat → Int32)) :=
  b1 (f_X8_areTwo mPeople p1 p2) fun (r_1 : Int32) =>
  if r_1 = 0 then
    some ((-1), mSt)
  else
    b1 (f_X8_in p3.toInt64 0 99) fun (r_2 : Int32) =>
    if r_2 = 0 then
      some ((-1), mSt)
    else
      b2 (f_X8_becomes mSt ((15 + (5 * p1)) + p2) p3) fun (r_3 : Int32) (mSt_4 : (Nat → Int32)) =>
      some (r_3, mSt_4)
def f_X8_byteAt (mTape : (Nat → Int32)) (mTaped : Int32) (p1 : Int32) : Option (Int32) :=
  if mTaped ≤ p1 then
    some (-1)
  else
    b1 (rd mTape 160 p1) fun (a_1 : Int32) =>
    some a_1
def f_X8_clears_L13 (mPeople : Int32) : Nat → Int32 → Int32 → Int32 → Int32 → (Nat → Int32) → Option (Int32 × (Nat → Int32))
  | 0, _, _, _, _, _ => none
  | n + 1, v3_1, v4_2, v5_3, v6_4, mRow_5 =>
    if v6_4 < 0 then
      some (v5_3, mRow_5)
    else
      b1 (nz mPeople) fun _ =>
      b1 (wr mRow_5 5 v6_4 (v3_1 - v3_1 / mPeople * mPeople)) fun (mRow_8 : Nat → Int32) =>
      b1 (nz mPeople) fun _ =>
      b1 (
        if v5_3 = 0 then
          some 0
        else
          b1 (rd mRow_8 5 v6_4) fun (a_10 : Int32) =>
          if ((v4_2 >>> (a_10 &&& 31)) &&& 1) = 0 then
            some 1
          else
            some 0) fun (t_9 : Int32) =>
      b1 (rd mRow_8 5 v6_4) fun (a_11 : Int32) =>
      f_X8_clears_L13 mPeople n (v3_1 / mPeople) (v4_2 ||| ((1 : Int32) <<< (a_11 &&& 31))) t_9 (v6_4 + (-1)) mRow_8
def f_X8_clears_L92 (mNow : (Nat → Int32)) (p2 : Int32) (mRow_7 : (Nat → Int32)) : Nat → Int32 → Int32 → Int32 → Option (Int32 × Int32)
  | 0, _, _, _ => none
  | n + 1, v5_12, v6_13, v7_14 =>
    if p2 ≤ v7_14 then
      some (v5_12, v6_13)
    else
      b1 (
        if v5_12 = 0 then
          some 0
        else
          b1 (rd mRow_7 5 v7_14) fun (a_18 : Int32) =>
          b1 (rd mRow_7 5 0) fun (a_19 : Int32) =>
          if a_18 < a_19 then
            some 0
          else
            some 1) fun (t_17 : Int32) =>
      b1 (rd mRow_7 5 v7_14) fun (a_20 : Int32) =>
      b1 (nz p2) fun _ =>
      b1 (rd mRow_7 5 ((v7_14 + 1) - (v7_14 + 1) / p2 * p2)) fun (a_21 : Int32) =>
      b1 (f_X8_debt mNow a_20 a_21) fun (r_22 : Int32) =>
      b1 (f_X8_lesser v6_13 r_22) fun (r_23 : Int32) =>
      f_X8_clears_L92 mNow p2 mRow_7 n t_17 r_23 (v7_14 + 1)
def f_X8_clears (mNow : (Nat → Int32)) (mPeople : Int32) (mRow : (Nat → Int32)) (p1 : Int32) (p2 : Int32) : Option (Int32 × (Nat → Int32)) :=
  b2 (f_X8_clears_L13 mPeople 400 p1 0 1 (p2 - 1) mRow) fun (v5_6 : Int32) (mRow_7 : (Nat → Int32)) =>
  b2 (f_X8_clears_L92 mNow p2 mRow_7 400 v5_6 100 0) fun (v5_15 : Int32) (v6_16 : Int32) =>
  if v5_15 = 0 then
    some (0, mRow_7)
  else
    some (v6_16, mRow_7)
def f_X8_findRing_L24 (mNow : (Nat → Int32)) (mPeople : Int32) (v1_1 : Int32) (v2_2 : Int32) : Nat → Int32 → (Nat → Int32) → Int32 → Option ((Int32 × (Nat → Int32) × Int32) ⊕ ((Nat → Int32) × Int32))
  | 0, _, _, _ => none
  | n + 1, v3_7, mRow_8, mRingMuch_9 =>
    if (v1_1 * mPeople) ≤ v3_7 then
      some (Sum.inr (mRow_8, mRingMuch_9))
    else
      b2 (f_X8_clears mNow mPeople mRow_8 v3_7 v2_2) fun (r_12 : Int32) (mRow_13 : (Nat → Int32)) =>
      if r_12 ≤ 0 then
        f_X8_findRing_L24 mNow mPeople v1_1 v2_2 n (v3_7 + 1) mRow_13 r_12
      else
        some (Sum.inl (v2_2, mRow_13, r_12))
def f_X8_findRing_L7 (mNow : (Nat → Int32)) (mPeople : Int32) : Nat → Int32 → Int32 → (Nat → Int32) → Int32 → Option ((Int32 × (Nat → Int32) × Int32) ⊕ ((Nat → Int32) × Int32))
  | 0, _, _, _, _ => none
  | n + 1, v1_1, v2_2, mRow_3, mRingMuch_4 =>
    if mPeople < v2_2 then
      some (Sum.inr (mRow_3, mRingMuch_4))
    else
      bt2 (f_X8_findRing_L24 mNow mPeople v1_1 v2_2 4000 0 mRow_3 mRingMuch_4) fun (mRow_10 : (Nat → Int32)) (mRingMuch_11 : Int32) =>
      f_X8_findRing_L7 mNow mPeople n (v1_1 * mPeople) (v2_2 + 1) mRow_10 mRingMuch_11
def f_X8_findRing (mNow : (Nat → Int32)) (mPeople : Int32) (mRow : (Nat → Int32)) (mRingMuch : Int32) : Option (Int32 × (Nat → Int32) × Int32) :=
  bs2 (f_X8_findRing_L7 mNow mPeople 400 mPeople 2 mRow mRingMuch) fun (mRow_5 : (Nat → Int32)) (mRingMuch_6 : Int32) =>
  some ((-4), mRow_5, mRingMuch_6)
def f_X8_settles_L2 (mNow : (Nat → Int32)) : Nat → Int32 → (Nat → Int32) → Option ((Nat → Int32))
  | 0, _, _ => none
  | n + 1, v1_1, mSt_2 =>
    if 61 ≤ v1_1 then
      some mSt_2
    else
      b1 (rd mNow 61 v1_1) fun (a_4 : Int32) =>
      b1 (wr mSt_2 183 v1_1 a_4) fun (mSt_5 : Nat → Int32) =>
      f_X8_settles_L2 mNow n (v1_1 + 1) mSt_5
def f_X8_settles (mSt : (Nat → Int32)) (mNow : (Nat → Int32)) : Option ((Nat → Int32)) :=
  b1 (f_X8_settles_L2 mNow 400 0 mSt) fun (mSt_3 : (Nat → Int32)) =>
  some mSt_3
def f_X8_clear_L31 (v2_6 : Int32) (mRow_9 : (Nat → Int32)) (mRingMuch_10 : Int32) : Nat → Int32 → (Nat → Int32) → Option ((Nat → Int32))
  | 0, _, _ => none
  | n + 1, v4_14, mNow_15 =>
    if v2_6 ≤ v4_14 then
      some mNow_15
    else
      b1 (rd mRow_9 5 v4_14) fun (a_17 : Int32) =>
      b1 (nz v2_6) fun _ =>
      b1 (rd mRow_9 5 ((v4_14 + 1) - (v4_14 + 1) / v2_6 * v2_6)) fun (a_18 : Int32) =>
      b1 (rd mNow_15 61 ((15 + (5 * a_17)) + a_18)) fun (a_19 : Int32) =>
      b1 (wr mNow_15 61 ((15 + (5 * a_17)) + a_18) (a_19 - mRingMuch_10)) fun (mNow_20 : Nat → Int32) =>
      f_X8_clear_L31 v2_6 mRow_9 mRingMuch_10 n (v4_14 + 1) mNow_20
def f_X8_clear_L16 (mPeople : Int32) : Nat → Int32 → Int32 → (Nat → Int32) → (Nat → Int32) → Int32 → Option ((Nat → Int32) × (Nat → Int32) × Int32)
  | 0, _, _, _, _, _ => none
  | n + 1, v2_6, v3_7, mNow_8, mRow_9, mRingMuch_10 =>
    if 25 ≤ v3_7 then
      some (mNow_8, mRow_9, mRingMuch_10)
    else
      if v2_6 = (-4) then
        some (mNow_8, mRow_9, mRingMuch_10)
      else
        b1 (f_X8_clear_L31 v2_6 mRow_9 mRingMuch_10 400 0 mNow_8) fun (mNow_16 : (Nat → Int32)) =>
        b3 (f_X8_findRing mNow_16 mPeople mRow_9 mRingMuch_10) fun (r_21 : Int32) (mRow_22 : (Nat → Int32)) (mRingMuch_23 : Int32) =>
        f_X8_clear_L16 mPeople n r_21 (v3_7 + 1) mNow_16 mRow_22 mRingMuch_23
def f_X8_clear (mSt : (Nat → Int32)) (mNow : (Nat → Int32)) (mPeople : Int32) (mRow : (Nat → Int32)) (mRingMuch : Int32) : Option (Int32 × (Nat → Int32) × (Nat → Int32) × (Nat → Int32) × Int32) :=
  b1 (f_X8_starts mSt mNow) fun (mNow_1 : (Nat → Int32)) =>
  b1 (f_X8_allOwed mNow_1 mPeople) fun (r_2 : Int32) =>
  b3 (f_X8_findRing mNow_1 mPeople mRow mRingMuch) fun (r_3 : Int32) (mRow_4 : (Nat → Int32)) (mRingMuch_5 : Int32) =>
  b3 (f_X8_clear_L16 mPeople 400 r_3 0 mNow_1 mRow_4 mRingMuch_5) fun (mNow_11 : (Nat → Int32)) (mRow_12 : (Nat → Int32)) (mRingMuch_13 : Int32) =>
  b1 (f_X8_settles mSt mNow_11) fun (mSt_24 : (Nat → Int32)) =>
  b1 (f_X8_allOwed mNow_11 mPeople) fun (r_25 : Int32) =>
  some (r_2 - r_25, mSt_24, mNow_11, mRow_12, mRingMuch_13)
def f_X8_common_L6 : Nat → Int64 → Int64 → Option (Int64)
  | 0, _, _ => none
  | n + 1, v4_1, v6_2 =>
    if (lg_cmp v6_2 0) = 0 then
      some v4_1
    else
      b1 (nzl v6_2) fun _ =>
      f_X8_common_L6 n v6_2 (v4_1 - v4_1 / v6_2 * v6_2)
def f_X8_common (p1 : Int64) (p2 : Int64) : Option (Int64) :=
  b1 (f_X8_common_L6 400 p1 p2) fun (v4_3 : Int64) =>
  some v4_3
def f_X8_count_L4 (mSt : (Nat → Int32)) : Nat → Int32 → Int32 → Option (Int32)
  | 0, _, _ => none
  | n + 1, v2_1, v3_2 =>
    if 25 ≤ v3_2 then
      some v2_1
    else
      b1 (rd mSt 183 (15 + v3_2)) fun (a_4 : Int32) =>
      b1 (
        if a_4 ≤ 0 then
          some 0
        else
          some 1) fun (t_5 : Int32) =>
      b1 (f_X8_flag t_5) fun (r_6 : Int32) =>
      f_X8_count_L4 mSt n (v2_1 + r_6) (v3_2 + 1)
def f_X8_count (mSt : (Nat → Int32)) (mIsKept : (Nat → Int32)) (mTaped : Int32) (mLanes : (Nat → Int32)) (mSizes : (Nat → Int32)) (p1 : Int32) : Option (Int32) :=
  b1 (f_X8_count_L4 mSt 400 0 0) fun (v2_3 : Int32) =>
  if p1 = 0 then
    b1 (rd mSt 183 42) fun (a_7 : Int32) =>
    some a_7
  else
    if p1 = 1 then
      b1 (rd mIsKept 2 0) fun (a_8 : Int32) =>
      b1 (f_X8_flag a_8) fun (r_9 : Int32) =>
      b1 (rd mIsKept 2 1) fun (a_10 : Int32) =>
      b1 (f_X8_flag a_10) fun (r_11 : Int32) =>
      some (r_9 + r_11)
    else
      if p1 = 2 then
        some mTaped
      else
        if p1 = 3 then
          b1 (rd mLanes 4 0) fun (a_12 : Int32) =>
          if a_12 = (-4) then
            some (-4)
          else
            b1 (rd mSizes 4 0) fun (a_13 : Int32) =>
            some a_13
        else
          if p1 = 4 then
            some v2_3
          else
            some (-1)
def f_X8_days (mSt : (Nat → Int32)) (mNow : (Nat → Int32)) (mPeople : Int32) (mPaid : Int32) (p1 : Int32) : Option (Int32 × (Nat → Int32) × (Nat → Int32) × Int32) :=
  b1 (f_X8_in p1.toInt64 0 30) fun (r_1 : Int32) =>
  if r_1 = 0 then
    some ((-1), mSt, mNow, mPaid)
  else
    b1 (rd mSt 183 40) fun (a_2 : Int32) =>
    if (a_2 + p1) ≤ 999 then
      b1 (f_X8_starts mSt mNow) fun (mNow_3 : (Nat → Int32)) =>
      b2 (f_X8_daysGo mNow_3 mPeople p1) fun (mNow_4 : (Nat → Int32)) (mPaid_5 : Int32) =>
      b1 (f_X8_settles mSt mNow_4) fun (mSt_6 : (Nat → Int32)) =>
      some (mPaid_5, mSt_6, mNow_4, mPaid_5)
    else
      some ((-3), mSt, mNow, mPaid)
def f_X8_daysTo_L2 (mPeople : Int32) (p1 : Int32) : Nat → Int32 → (Nat → Int32) → Int32 → Option ((Int32 × (Nat → Int32) × Int32) ⊕ ((Nat → Int32) × Int32))
  | 0, _, _, _ => none
  | n + 1, v2_1, mNow_2, mPaid_3 =>
    if 60 < v2_1 then
      some (Sum.inr (mNow_2, mPaid_3))
    else
      b1 (f_X8_owesAll mNow_2 mPeople p1) fun (r_6 : Int32) =>
      if r_6 = 0 then
        some (Sum.inl (v2_1, mNow_2, mPaid_3))
      else
        b2 (f_X8_dayGoes mNow_2 mPeople mPaid_3) fun (mNow_7 : (Nat → Int32)) (mPaid_8 : Int32) =>
        f_X8_daysTo_L2 mPeople p1 n (v2_1 + 1) mNow_7 mPaid_8
def f_X8_daysTo (mNow : (Nat → Int32)) (mPeople : Int32) (mPaid : Int32) (p1 : Int32) : Option (Int32 × (Nat → Int32) × Int32) :=
  bs2 (f_X8_daysTo_L2 mPeople p1 400 0 mNow mPaid) fun (mNow_4 : (Nat → Int32)) (mPaid_5 : Int32) =>
  some ((-4), mNow_4, mPaid_5)
def f_X8_daysIf (mSt : (Nat → Int32)) (mNow : (Nat → Int32)) (mPeople : Int32) (mPaid : Int32) (p1 : Int32) (p2 : Int32) : Option (Int32 × (Nat → Int32) × Int32) :=
  b1 (f_X8_starts mSt mNow) fun (mNow_1 : (Nat → Int32)) =>
  b1 (wr mNow_1 61 41 p2) fun (mNow_2 : Nat → Int32) =>
  b3 (f_X8_daysTo mNow_2 mPeople mPaid p1) fun (r_3 : Int32) (mNow_4 : (Nat → Int32)) (mPaid_5 : Int32) =>
  some (r_3, mNow_4, mPaid_5)
def f_X8_lendsNow (mNow : (Nat → Int32)) (p1 : Int32) (p2 : Int32) (p3 : Int32) : Option (Int32 × (Nat → Int32)) :=
  b1 (
    if p1 = p2 then
      some 0
    else
      b1 (f_X8_of mNow p1 1) fun (r_2 : Int32) =>
      if r_2 < p3 then
        some 0
      else
        b1 (f_X8_debt mNow p2 p1) fun (r_3 : Int32) =>
        if 99 < (r_3 + p3) then
          some 0
        else
          b1 (f_X8_of mNow p2 1) fun (r_4 : Int32) =>
          if 999 < (r_4 + p3) then
            some 0
          else
            some 1) fun (t_1 : Int32) =>
  if t_1 = 0 then
    b1 (bz t_1) fun (z_5 : Int32) =>
    some (z_5, mNow)
  else
    b1 (rd mNow 61 ((15 + (5 * p2)) + p1)) fun (a_6 : Int32) =>
    b1 (wr mNow 61 ((15 + (5 * p2)) + p1) (a_6 + p3)) fun (mNow_7 : Nat → Int32) =>
    b1 (f_X8_of mNow_7 p1 1) fun (r_8 : Int32) =>
    b1 (f_X8_becomesOf mNow_7 p1 1 (r_8 - p3)) fun (mNow_9 : (Nat → Int32)) =>
    b1 (f_X8_gets mNow_9 p2 p3) fun (mNow_10 : (Nat → Int32)) =>
    b1 (bz t_1) fun (z_11 : Int32) =>
    some (z_11, mNow_10)
def f_X8_drift_L41 (mPeople : Int32) (p2 : Int32) : Nat → Int32 → Int32 → (Nat → Int32) → Int32 → Option ((Nat → Int32) × Int32)
  | 0, _, _, _, _ => none
  | n + 1, v4_4, v5_5, mNow_6, mPaid_7 =>
    if p2 ≤ v5_5 then
      some (mNow_6, mPaid_7)
    else
      b1 (nz mPeople) fun _ =>
      b1 (nz mPeople) fun _ =>
      b2 (f_X8_lendsNow mNow_6 (((((v4_4 * 1103515245) + 12345) >>> ((16 : Int32) &&& 31)) &&& 32767) - ((((v4_4 * 1103515245) + 12345) >>> ((16 : Int32) &&& 31)) &&& 32767) / mPeople * mPeople) ((((((v4_4 * 1103515245) + 12345) >>> ((16 : Int32) &&& 31)) &&& 32767) / 8) - (((((v4_4 * 1103515245) + 12345) >>> ((16 : Int32) &&& 31)) &&& 32767) / 8) / mPeople * mPeople) (1 + ((((((v4_4 * 1103515245) + 12345) >>> ((16 : Int32) &&& 31)) &&& 32767) / 64) - (((((v4_4 * 1103515245) + 12345) >>> ((16 : Int32) &&& 31)) &&& 32767) / 64) / 9 * 9))) fun (r_10 : Int32) (mNow_11 : (Nat → Int32)) =>
      b2 (f_X8_dayGoes mNow_11 mPeople mPaid_7) fun (mNow_12 : (Nat → Int32)) (mPaid_13 : Int32) =>
      f_X8_drift_L41 mPeople p2 n ((v4_4 * 1103515245) + 12345) (v5_5 + 1) mNow_12 mPaid_13
def f_X8_drift (mSt : (Nat → Int32)) (mNow : (Nat → Int32)) (mPeople : Int32) (mPaid : Int32) (p1 : Int32) (p2 : Int32) (p3 : Int32) : Option (Int32 × (Nat → Int32) × Int32) :=
  b1 (f_X8_in p2.toInt64 1 60) fun (r_1 : Int32) =>
  if r_1 = 0 then
    some ((-1), mNow, mPaid)
  else
    b1 (f_X8_isPart p3) fun (r_2 : Int32) =>
    if r_2 = 0 then
      some ((-1), mNow, mPaid)
    else
      if mPeople = 0 then
        some ((-2), mNow, mPaid)
      else
        b1 (f_X8_starts mSt mNow) fun (mNow_3 : (Nat → Int32)) =>
        b2 (f_X8_drift_L41 mPeople p2 400 p1 0 mNow_3 mPaid) fun (mNow_8 : (Nat → Int32)) (mPaid_9 : Int32) =>
        if p3 = 0 then
          b1 (f_X8_allOwed mNow_8 mPeople) fun (r_15 : Int32) =>
          some (r_15, mNow_8, mPaid_9)
        else
          b1 (f_X8_riding mNow_8 mPeople) fun (r_14 : Int32) =>
          some (r_14, mNow_8, mPaid_9)
def f_X8_dry (mSt : (Nat → Int32)) (p1 : Int32) : Option (Int32 × (Nat → Int32)) :=
  b1 (f_X8_in p1.toInt64 0 9) fun (r_1 : Int32) =>
  if r_1 = 0 then
    some ((-1), mSt)
  else
    b2 (f_X8_becomes mSt 41 p1) fun (r_2 : Int32) (mSt_3 : (Nat → Int32)) =>
    some (r_2, mSt_3)
def f_X8_which_L6 (mSt : (Nat → Int32)) (mPeople : Int32) (p1 : Int32) (p2 : Int32) (p3 : Int32) : Nat → Int32 → Int32 → (Nat → Int32) → Int32 → (Nat → Int32) → Option (Int32 × (Nat → Int32) × Int32 × (Nat → Int32))
  | 0, _, _, _, _, _ => none
  | n + 1, v4_1, v5_2, mNow_3, mPaid_4, mRode_5 =>
    if p3 < v5_2 then
      some (v4_1, mNow_3, mPaid_4, mRode_5)
    else
      b4 (f_X8_isSoWith mSt mNow_3 mPeople mPaid_4 mRode_5 p1 p2 v5_2) fun (r_10 : Int32) (mNow_11 : (Nat → Int32)) (mPaid_12 : Int32) (mRode_13 : (Nat → Int32)) =>
      b1 (f_X8_flag r_10) fun (r_14 : Int32) =>
      f_X8_which_L6 mSt mPeople p1 p2 p3 n (v4_1 ||| (r_14 <<< (v5_2 &&& 31))) (v5_2 + 1) mNow_11 mPaid_12 mRode_13
def f_X8_which (mSt : (Nat → Int32)) (mNow : (Nat → Int32)) (mPeople : Int32) (mPaid : Int32) (mRode : (Nat → Int32)) (p1 : Int32) (p2 : Int32) (p3 : Int32) : Option (Int32 × (Nat → Int32) × Int32 × (Nat → Int32)) :=
  b4 (f_X8_which_L6 mSt mPeople p1 p2 p3 400 0 0 mNow mPaid mRode) fun (v4_6 : Int32) (mNow_7 : (Nat → Int32)) (mPaid_8 : Int32) (mRode_9 : (Nat → Int32)) =>
  some (v4_6, mNow_7, mPaid_8, mRode_9)
def f_X8_earns (mSt : (Nat → Int32)) (mNow : (Nat → Int32)) (mPeople : Int32) (mPaid : Int32) (mRode : (Nat → Int32)) (p1 : Int32) : Option (Int32 × (Nat → Int32) × Int32 × (Nat → Int32)) :=
  b1 (f_X8_isOne mPeople p1) fun (r_1 : Int32) =>
  if r_1 = 0 then
    some ((-1), mNow, mPaid, mRode)
  else
    b4 (f_X8_which mSt mNow mPeople mPaid mRode p1 2 9) fun (r_2 : Int32) (mNow_3 : (Nat → Int32)) (mPaid_4 : Int32) (mRode_5 : (Nat → Int32)) =>
    some (r_2, mNow_3, mPaid_4, mRode_5)
def f_X8_end (mTaped : Int32) (p1 : Int32) : Option (Int32 × Int32) :=
  b1 (f_X8_in p1.toInt64 0 mTaped.toInt64) fun (r_1 : Int32) =>
  if r_1 = 0 then
    some ((-1), mTaped)
  else
    some (mTaped, p1)
def f_X8_ends_B32 (mTape : (Nat → Int32)) (mTaped : Int32) (mBegun : Int32) (p3 : Int32) : Option (Int32) :=
  if p3 = 0 then
    some 1
  else
    b1 (f_X8_byteAt mTape mTaped (mBegun + 5)) fun (r_2 : Int32) =>
    if r_2 = p3 then
      some 1
    else
      some 0
def f_X8_ends (mTape : (Nat → Int32)) (mTaped : Int32) (mBegun : Int32) (p1 : Int32) (p2 : Int32) (p3 : Int32) : Option (Int32) :=
  b1 (f_X8_byteAt mTape mTaped (mBegun + 3)) fun (r_1 : Int32) =>
  if r_1 = p1 then
    if p2 = 0 then
      f_X8_ends_B32 mTape mTaped mBegun p3
    else
      b1 (f_X8_byteAt mTape mTaped (mBegun + 4)) fun (r_3 : Int32) =>
      if r_3 = p2 then
        f_X8_ends_B32 mTape mTaped mBegun p3
      else
        some 0
  else
    some 0
def f_X8_fault (mFault : Int32) : Option (Int32) :=
  some mFault
def f_X8_feed (mTape : (Nat → Int32)) (mTaped : Int32) (p1 : Int32) : Option (Int32 × (Nat → Int32) × Int32) :=
  b1 (f_X8_in p1.toInt64 0 127) fun (r_1 : Int32) =>
  if r_1 = 0 then
    some ((-1), mTape, mTaped)
  else
    if mTaped = 160 then
      some ((-3), mTape, mTaped)
    else
      b1 (wr mTape 160 mTaped p1) fun (mTape_2 : Nat → Int32) =>
      some (mTaped + 1, mTape_2, mTaped + 1)
def f_X8_findOdds_L18 (p3 : Int32) : Nat → Int32 → Int64 → Option (Int64)
  | 0, _, _ => none
  | n + 1, v4_1, mAllWays_2 =>
    if p3 ≤ v4_1 then
      some mAllWays_2
    else
      f_X8_findOdds_L18 p3 n (v4_1 + 1) (mAllWays_2 * 10)
def f_X8_findOdds_L63 (mSt : (Nat → Int32)) (mPeople : Int32) (p1 : Int32) (p3 : Int32) (v4_4 : Int32) : Nat → Int64 → Int32 → (Nat → Int32) → Int32 → Option (Int64 × (Nat → Int32) × Int32)
  | 0, _, _, _, _ => none
  | n + 1, v5_14, v7_15, mNow_16, mPaid_17 =>
    if p3 ≤ v7_15 then
      some (v5_14, mNow_16, mPaid_17)
    else
      b1 (
        if ((v4_4 >>> (v7_15 &&& 31)) &&& 1) = 1 then
          some 1
        else
          some 0) fun (t_21 : Int32) =>
      b1 (
        if t_21 = 0 then
          some ((10 - p1).toInt64)
        else
          some p1.toInt64) fun (t_22 : Int64) =>
      b1 (
        if t_21 = 0 then
          b1 (rd mSt 183 41) fun (a_24 : Int32) =>
          some a_24
        else
          some 9) fun (t_23 : Int32) =>
      b1 (wr mNow_16 61 41 t_23) fun (mNow_25 : Nat → Int32) =>
      b2 (f_X8_dayGoes mNow_25 mPeople mPaid_17) fun (mNow_26 : (Nat → Int32)) (mPaid_27 : Int32) =>
      f_X8_findOdds_L63 mSt mPeople p1 p3 v4_4 n (v5_14 * t_22) (v7_15 + 1) mNow_26 mPaid_27
def f_X8_findOdds_L45 (mSt : (Nat → Int32)) (mPeople : Int32) (p1 : Int32) (p2 : Int32) (p3 : Int32) : Nat → Int32 → (Nat → Int32) → Int32 → Int64 → Int64 → Option ((Nat → Int32) × Int32 × Int64 × Int64)
  | 0, _, _, _, _, _ => none
  | n + 1, v4_4, mNow_5, mPaid_6, mRideSum_7, mOwedSum_8 =>
    if ((1 : Int32) <<< (p3 &&& 31)) ≤ v4_4 then
      some (mNow_5, mPaid_6, mRideSum_7, mOwedSum_8)
    else
      b1 (f_X8_starts mSt mNow_5) fun (mNow_13 : (Nat → Int32)) =>
      b3 (f_X8_findOdds_L63 mSt mPeople p1 p3 v4_4 400 1 0 mNow_13 mPaid_6) fun (v5_18 : Int64) (mNow_19 : (Nat → Int32)) (mPaid_20 : Int32) =>
      b1 (
        if p2 = (-4) then
          some 0
        else
          b1 (f_X8_owesAll mNow_19 mPeople p2) fun (r_29 : Int32) =>
          if r_29 = 0 then
            some v5_18
          else
            some 0) fun (t_28 : Int64) =>
      b1 (f_X8_allOwed mNow_19 mPeople) fun (r_30 : Int32) =>
      f_X8_findOdds_L45 mSt mPeople p1 p2 p3 n (v4_4 + 1) mNow_19 mPaid_20 (mRideSum_7 + t_28) (mOwedSum_8 + (v5_18 * r_30.toInt64))
def f_X8_findOdds (mSt : (Nat → Int32)) (mNow : (Nat → Int32)) (mPeople : Int32) (mPaid : Int32) (p1 : Int32) (p2 : Int32) (p3 : Int32) : Option ((Nat → Int32) × Int32 × Int64 × Int64 × Int64) :=
  b1 (f_X8_findOdds_L18 p3 400 0 1) fun (mAllWays_3 : Int64) =>
  b4 (f_X8_findOdds_L45 mSt mPeople p1 p2 p3 400 0 mNow mPaid 0 0) fun (mNow_9 : (Nat → Int32)) (mPaid_10 : Int32) (mRideSum_11 : Int64) (mOwedSum_12 : Int64) =>
  some (mNow_9, mPaid_10, mRideSum_11, mOwedSum_12, mAllWays_3)
def f_X8_firstDraft_L2 : Nat → Int32 → (Nat → Int32) → Option ((Nat → Int32))
  | 0, _, _ => none
  | n + 1, v1_1, mDraft_2 =>
    if 61 ≤ v1_1 then
      some mDraft_2
    else
      b1 (wr mDraft_2 61 v1_1 0) fun (mDraft_4 : Nat → Int32) =>
      f_X8_firstDraft_L2 n (v1_1 + 1) mDraft_4
def f_X8_firstDraft (mDraft : (Nat → Int32)) : Option ((Nat → Int32) × Int32 × Int32 × Int32 × Int32) :=
  b1 (f_X8_firstDraft_L2 400 0 mDraft) fun (mDraft_3 : (Nat → Int32)) =>
  some (mDraft_3, 0, 0, 0, (-4))
def f_X8_forget (mSt : (Nat → Int32)) (p1 : Int32) : Option (Int32 × (Nat → Int32)) :=
  b1 (rd mSt 183 42) fun (a_1 : Int32) =>
  b1 (f_X8_in p1.toInt64 0 a_1.toInt64) fun (r_2 : Int32) =>
  if r_2 = 0 then
    some ((-1), mSt)
  else
    b2 (f_X8_becomes mSt 42 p1) fun (r_3 : Int32) (mSt_4 : (Nat → Int32)) =>
    some (r_3, mSt_4)
def f_X8_ridingMany_L4 (mNow : (Nat → Int32)) (mPeople : Int32) : Nat → Int32 → Int32 → Option (Int32)
  | 0, _, _ => none
  | n + 1, v1_1, v2_2 =>
    if mPeople ≤ v2_2 then
      some v1_1
    else
      b1 (f_X8_owesAll mNow mPeople v2_2) fun (r_4 : Int32) =>
      b1 (
        if r_4 = 0 then
          some 1
        else
          some 0) fun (t_5 : Int32) =>
      b1 (f_X8_flag t_5) fun (r_6 : Int32) =>
      f_X8_ridingMany_L4 mNow mPeople n (v1_1 + r_6) (v2_2 + 1)
def f_X8_ridingMany (mNow : (Nat → Int32)) (mPeople : Int32) : Option (Int32) :=
  b1 (f_X8_ridingMany_L4 mNow mPeople 400 0 0) fun (v1_3 : Int32) =>
  some v1_3
def f_X8_ridingBehind (mNow : (Nat → Int32)) (mPeople : Int32) (p1 : Int32) : Option (Int32 × (Nat → Int32) × Int32) :=
  b2 (f_X8_daysGo mNow mPeople p1) fun (mNow_1 : (Nat → Int32)) (mPaid_2 : Int32) =>
  b1 (f_X8_ridingMany mNow_1 mPeople) fun (r_3 : Int32) =>
  some (r_3, mNow_1, mPaid_2)
def f_X8_forgive_L38 (mSt : (Nat → Int32)) (mPeople : Int32) (v4_8 : Int32) : Nat → Int32 → Int32 → Int32 → (Nat → Int32) → Int32 → Option (Int32 × Int32 × (Nat → Int32) × Int32)
  | 0, _, _, _, _, _ => none
  | n + 1, v2_15, v3_16, v5_17, mNow_18, mPaid_19 =>
    if mPeople ≤ v5_17 then
      some (v2_15, v3_16, mNow_18, mPaid_19)
    else
      if v4_8 = v5_17 then
        f_X8_forgive_L38 mSt mPeople v4_8 n v2_15 v3_16 (v5_17 + 1) mNow_18 mPaid_19
      else
        b1 (f_X8_starts mSt mNow_18) fun (mNow_24 : (Nat → Int32)) =>
        b1 (wr mNow_24 61 ((15 + (5 * v4_8)) + v5_17) 0) fun (mNow_25 : Nat → Int32) =>
        b3 (f_X8_ridingBehind mNow_25 mPeople 30) fun (r_26 : Int32) (mNow_27 : (Nat → Int32)) (mPaid_28 : Int32) =>
        b1 (
          if r_26 ≤ v2_15 then
            some v3_16
          else
            some ((10 * v4_8) + v5_17)) fun (t_29 : Int32) =>
        if r_26 ≤ v2_15 then
          f_X8_forgive_L38 mSt mPeople v4_8 n v2_15 t_29 (v5_17 + 1) mNow_27 mPaid_28
        else
          f_X8_forgive_L38 mSt mPeople v4_8 n r_26 t_29 (v5_17 + 1) mNow_27 mPaid_28
def f_X8_forgive_L26 (mSt : (Nat → Int32)) (mPeople : Int32) : Nat → Int32 → Int32 → Int32 → (Nat → Int32) → Int32 → Option (Int32 × Int32 × (Nat → Int32) × Int32)
  | 0, _, _, _, _, _ => none
  | n + 1, v2_6, v3_7, v4_8, mNow_9, mPaid_10 =>
    if mPeople ≤ v4_8 then
      some (v2_6, v3_7, mNow_9, mPaid_10)
    else
      b4 (f_X8_forgive_L38 mSt mPeople v4_8 400 v2_6 v3_7 0 mNow_9 mPaid_10) fun (v2_20 : Int32) (v3_21 : Int32) (mNow_22 : (Nat → Int32)) (mPaid_23 : Int32) =>
      f_X8_forgive_L26 mSt mPeople n v2_20 v3_21 (v4_8 + 1) mNow_22 mPaid_23
def f_X8_forgive (mSt : (Nat → Int32)) (mNow : (Nat → Int32)) (mPeople : Int32) (mPaid : Int32) (p1 : Int32) : Option (Int32 × (Nat → Int32) × Int32) :=
  b1 (f_X8_isPart p1) fun (r_1 : Int32) =>
  if r_1 = 0 then
    some ((-1), mNow, mPaid)
  else
    b1 (f_X8_starts mSt mNow) fun (mNow_2 : (Nat → Int32)) =>
    b3 (f_X8_ridingBehind mNow_2 mPeople 30) fun (r_3 : Int32) (mNow_4 : (Nat → Int32)) (mPaid_5 : Int32) =>
    b4 (f_X8_forgive_L26 mSt mPeople 400 r_3 (-4) 0 mNow_4 mPaid_5) fun (v2_11 : Int32) (v3_12 : Int32) (mNow_13 : (Nat → Int32)) (mPaid_14 : Int32) =>
    if v3_12 = (-4) then
      some ((-4), mNow_13, mPaid_14)
    else
      if p1 = 0 then
        some (v3_12, mNow_13, mPaid_14)
      else
        some (v2_11, mNow_13, mPaid_14)
def f_X8_give_L39 (mSt : (Nat → Int32)) (mPeople : Int32) (p1 : Int32) : Nat → Int32 → Int32 → Int32 → (Nat → Int32) → Int32 → Option (Int32 × Int32 × (Nat → Int32) × Int32)
  | 0, _, _, _, _, _ => none
  | n + 1, v3_7, v4_8, v5_9, mNow_10, mPaid_11 =>
    if mPeople ≤ v5_9 then
      some (v3_7, v4_8, mNow_10, mPaid_11)
    else
      b1 (f_X8_starts mSt mNow_10) fun (mNow_16 : (Nat → Int32)) =>
      b1 (f_X8_gets mNow_16 v5_9 p1) fun (mNow_17 : (Nat → Int32)) =>
      b3 (f_X8_ridingBehind mNow_17 mPeople 30) fun (r_18 : Int32) (mNow_19 : (Nat → Int32)) (mPaid_20 : Int32) =>
      b1 (
        if r_18 ≤ v3_7 then
          some v4_8
        else
          some v5_9) fun (t_21 : Int32) =>
      if r_18 ≤ v3_7 then
        f_X8_give_L39 mSt mPeople p1 n v3_7 t_21 (v5_9 + 1) mNow_19 mPaid_20
      else
        f_X8_give_L39 mSt mPeople p1 n r_18 t_21 (v5_9 + 1) mNow_19 mPaid_20
def f_X8_give (mSt : (Nat → Int32)) (mNow : (Nat → Int32)) (mPeople : Int32) (mPaid : Int32) (p1 : Int32) (p2 : Int32) : Option (Int32 × (Nat → Int32) × Int32) :=
  b1 (f_X8_in p1.toInt64 1 99) fun (r_1 : Int32) =>
  if r_1 = 0 then
    some ((-1), mNow, mPaid)
  else
    b1 (f_X8_isPart p2) fun (r_2 : Int32) =>
    if r_2 = 0 then
      some ((-1), mNow, mPaid)
    else
      b1 (f_X8_starts mSt mNow) fun (mNow_3 : (Nat → Int32)) =>
      b3 (f_X8_ridingBehind mNow_3 mPeople 30) fun (r_4 : Int32) (mNow_5 : (Nat → Int32)) (mPaid_6 : Int32) =>
      b4 (f_X8_give_L39 mSt mPeople p1 400 r_4 (-4) 0 mNow_5 mPaid_6) fun (v3_12 : Int32) (v4_13 : Int32) (mNow_14 : (Nat → Int32)) (mPaid_15 : Int32) =>
      if v4_13 = (-4) then
        some ((-4), mNow_14, mPaid_15)
      else
        if p2 = 0 then
          some (v4_13, mNow_14, mPaid_15)
        else
          some (v3_12, mNow_14, mPaid_15)
def f_X8_is (mTape : (Nat → Int32)) (mTaped : Int32) (mPos : Int32) (mBegun : Int32) (p1 : Int32) (p2 : Int32) (p3 : Int32) (p4 : Int32) : Option (Int32) :=
  if (mPos - mBegun) = p1 then
    b1 (f_X8_byteAt mTape mTaped mBegun) fun (r_1 : Int32) =>
    if r_1 = p2 then
      b1 (f_X8_byteAt mTape mTaped (mBegun + 1)) fun (r_2 : Int32) =>
      if r_2 = p3 then
        b1 (f_X8_byteAt mTape mTaped (mBegun + 2)) fun (r_3 : Int32) =>
        if r_3 = p4 then
          some 1
        else
          some 0
      else
        some 0
    else
      some 0
  else
    some 0
def f_X8_isSheet (p1 : Int32) (p2 : Int32) : Option (Int32) :=
  b1 (f_X8_in p1.toInt64 0 3) fun (r_1 : Int32) =>
  if r_1 = 0 then
    some 0
  else
    b1 (f_X8_in p2.toInt64 0 2) fun (r_2 : Int32) =>
    if r_2 = 0 then
      some 0
    else
      some 1
def f_X8_keep (mSt : (Nat → Int32)) (mIsKept : (Nat → Int32)) (p1 : Int32) : Option (Int32 × (Nat → Int32) × (Nat → Int32)) :=
  b1 (f_X8_in p1.toInt64 0 1) fun (r_1 : Int32) =>
  if r_1 = 0 then
    some ((-1), mSt, mIsKept)
  else
    b1 (rd mIsKept 2 p1) fun (a_2 : Int32) =>
    b1 (f_X8_flag a_2) fun (r_3 : Int32) =>
    b1 (wr mIsKept 2 p1 1) fun (mIsKept_4 : Nat → Int32) =>
    b1 (f_X8_copies mSt (61 * (p1 + 1)) 0) fun (mSt_5 : (Nat → Int32)) =>
    some (r_3, mSt_5, mIsKept_4)
def f_X8_keepDraft_L2 (mDraft : (Nat → Int32)) : Nat → Int32 → (Nat → Int32) → Option ((Nat → Int32))
  | 0, _, _ => none
  | n + 1, v1_1, mSt_2 =>
    if 61 ≤ v1_1 then
      some mSt_2
    else
      b1 (rd mDraft 61 v1_1) fun (a_4 : Int32) =>
      b1 (wr mSt_2 183 v1_1 a_4) fun (mSt_5 : Nat → Int32) =>
      f_X8_keepDraft_L2 mDraft n (v1_1 + 1) mSt_5
def f_X8_keepDraft (mSt : (Nat → Int32)) (mIsKept : (Nat → Int32)) (mDraft : (Nat → Int32)) (mDPeople : Int32) : Option ((Nat → Int32) × (Nat → Int32) × Int32) :=
  b1 (f_X8_keepDraft_L2 mDraft 400 0 mSt) fun (mSt_3 : (Nat → Int32)) =>
  b1 (wr mIsKept 2 0 0) fun (mIsKept_6 : Nat → Int32) =>
  b1 (wr mIsKept_6 2 1 0) fun (mIsKept_7 : Nat → Int32) =>
  some (mSt_3, mIsKept_7, mDPeople)
def f_X8_kind_L27 (mSt : (Nat → Int32)) (mPeople : Int32) (p1 : Int32) : Nat → Int32 → Int32 → Int32 → (Nat → Int32) → Int32 → Option (Int32 × Int32 × (Nat → Int32) × Int32)
  | 0, _, _, _, _, _ => none
  | n + 1, v3_3, v4_4, v5_5, mNow_6, mPaid_7 =>
    if 4 ≤ v5_5 then
      some (v3_3, v4_4, mNow_6, mPaid_7)
    else
      b1 (f_X8_starts mSt mNow_6) fun (mNow_12 : (Nat → Int32)) =>
      b1 (f_X8_becomesOf mNow_12 p1 0 v5_5) fun (mNow_13 : (Nat → Int32)) =>
      b3 (f_X8_daysTo mNow_13 mPeople mPaid_7 p1) fun (r_14 : Int32) (mNow_15 : (Nat → Int32)) (mPaid_16 : Int32) =>
      b1 (
        if r_14 = (-4) then
          some 0
        else
          if v3_3 ≤ r_14 then
            some 0
          else
            some 1) fun (t_17 : Int32) =>
      b1 (
        if t_17 = 0 then
          some v4_4
        else
          some v5_5) fun (t_18 : Int32) =>
      if t_17 = 0 then
        f_X8_kind_L27 mSt mPeople p1 n v3_3 t_18 (v5_5 + 1) mNow_15 mPaid_16
      else
        f_X8_kind_L27 mSt mPeople p1 n r_14 t_18 (v5_5 + 1) mNow_15 mPaid_16
def f_X8_kind (mSt : (Nat → Int32)) (mNow : (Nat → Int32)) (mPeople : Int32) (mPaid : Int32) (p1 : Int32) (p2 : Int32) : Option (Int32 × (Nat → Int32) × Int32) :=
  b1 (f_X8_isOne mPeople p1) fun (r_1 : Int32) =>
  if r_1 = 0 then
    some ((-1), mNow, mPaid)
  else
    b1 (f_X8_isPart p2) fun (r_2 : Int32) =>
    if r_2 = 0 then
      some ((-1), mNow, mPaid)
    else
      b4 (f_X8_kind_L27 mSt mPeople p1 400 61 (-4) 0 mNow mPaid) fun (v3_8 : Int32) (v4_9 : Int32) (mNow_10 : (Nat → Int32)) (mPaid_11 : Int32) =>
      if v4_9 = (-4) then
        some ((-4), mNow_10, mPaid_11)
      else
        if p2 = 0 then
          some (v4_9, mNow_10, mPaid_11)
        else
          some (v3_8, mNow_10, mPaid_11)
def f_X8_kinds (mSt : (Nat → Int32)) (mNow : (Nat → Int32)) (mPeople : Int32) (mPaid : Int32) (mRode : (Nat → Int32)) (p1 : Int32) : Option (Int32 × (Nat → Int32) × Int32 × (Nat → Int32)) :=
  b1 (f_X8_isOne mPeople p1) fun (r_1 : Int32) =>
  if r_1 = 0 then
    some ((-1), mNow, mPaid, mRode)
  else
    b4 (f_X8_which mSt mNow mPeople mPaid mRode p1 0 3) fun (r_2 : Int32) (mNow_3 : (Nat → Int32)) (mPaid_4 : Int32) (mRode_5 : (Nat → Int32)) =>
    some (r_2, mNow_3, mPaid_4, mRode_5)
def f_X8_late (mSt : (Nat → Int32)) (mNow : (Nat → Int32)) (mPeople : Int32) (mPaid : Int32) (p1 : Int32) (p2 : Int32) : Option (Int32 × (Nat → Int32) × Int32) :=
  b1 (f_X8_isOne mPeople p1) fun (r_1 : Int32) =>
  if r_1 = 0 then
    some ((-1), mNow, mPaid)
  else
    b1 (f_X8_in p2.toInt64 0 9) fun (r_2 : Int32) =>
    if r_2 = 0 then
      some ((-1), mNow, mPaid)
    else
      b3 (f_X8_daysIf mSt mNow mPeople mPaid p1 0) fun (r_3 : Int32) (mNow_4 : (Nat → Int32)) (mPaid_5 : Int32) =>
      b3 (f_X8_daysIf mSt mNow_4 mPeople mPaid_5 p1 p2) fun (r_6 : Int32) (mNow_7 : (Nat → Int32)) (mPaid_8 : Int32) =>
      if r_3 = (-4) then
        some ((-4), mNow_7, mPaid_8)
      else
        if r_6 = (-4) then
          some ((-4), mNow_7, mPaid_8)
        else
          some (r_6 - r_3, mNow_7, mPaid_8)
def f_X8_lay (mLanes : (Nat → Int32)) (mSizes : (Nat → Int32)) (mCells : (Nat → Int32)) (p1 : Int32) (p2 : Int32) (p3 : Int32) : Option (Int32 × (Nat → Int32)) :=
  b1 (f_X8_isSheet p1 0) fun (r_1 : Int32) =>
  if r_1 = 0 then
    some ((-1), mCells)
  else
    b1 (rd mLanes 4 p1) fun (a_2 : Int32) =>
    if a_2 = (-4) then
      some ((-11), mCells)
    else
      b1 (rd mSizes 4 p1) fun (a_3 : Int32) =>
      b1 (f_X8_in p2.toInt64 0 ((a_3 - 1).toInt64)) fun (r_4 : Int32) =>
      if r_4 = 0 then
        some ((-12), mCells)
      else
        b1 (rd mLanes 4 p1) fun (a_5 : Int32) =>
        b1 (
          if a_5 = 0 then
            some p3.toInt8.toInt32
          else
            b1 (rd mLanes 4 p1) fun (a_7 : Int32) =>
            if a_7 = 1 then
              some p3.toInt16.toInt32
            else
              some p3) fun (t_6 : Int32) =>
        b1 (wr mCells 160 ((40 * p1) + p2) t_6) fun (mCells_8 : Nat → Int32) =>
        some (1, mCells_8)
def f_X8_netOf (mNow : (Nat → Int32)) (mPeople : Int32) (p1 : Int32) : Option (Int32) :=
  b1 (f_X8_owesAll mNow mPeople p1) fun (r_1 : Int32) =>
  b1 (f_X8_isOwed mNow mPeople p1) fun (r_2 : Int32) =>
  some (r_1 - r_2)
def f_X8_least_L8 (mPeople : Int32) (mNow_1 : (Nat → Int32)) : Nat → Int32 → Int32 → Option (Int32)
  | 0, _, _ => none
  | n + 1, v1_2, v2_3 =>
    if mPeople ≤ v2_3 then
      some v1_2
    else
      b1 (f_X8_netOf mNow_1 mPeople v2_3) fun (r_5 : Int32) =>
      b1 (
        if r_5 ≤ 0 then
          some 0
        else
          b1 (f_X8_netOf mNow_1 mPeople v2_3) fun (r_7 : Int32) =>
          some r_7) fun (t_6 : Int32) =>
      f_X8_least_L8 mPeople mNow_1 n (v1_2 + t_6) (v2_3 + 1)
def f_X8_least (mSt : (Nat → Int32)) (mNow : (Nat → Int32)) (mPeople : Int32) : Option (Int32 × (Nat → Int32)) :=
  b1 (f_X8_starts mSt mNow) fun (mNow_1 : (Nat → Int32)) =>
  b1 (f_X8_least_L8 mPeople mNow_1 400 0 0) fun (v1_4 : Int32) =>
  some (v1_4, mNow_1)
def f_X8_lend (mSt : (Nat → Int32)) (mNow : (Nat → Int32)) (mPeople : Int32) (p1 : Int32) (p2 : Int32) (p3 : Int32) : Option (Int32 × (Nat → Int32) × (Nat → Int32)) :=
  b1 (f_X8_areTwo mPeople p1 p2) fun (r_1 : Int32) =>
  if r_1 = 0 then
    some ((-1), mSt, mNow)
  else
    b1 (f_X8_in p3.toInt64 1 99) fun (r_2 : Int32) =>
    if r_2 = 0 then
      some ((-1), mSt, mNow)
    else
      b1 (f_X8_starts mSt mNow) fun (mNow_3 : (Nat → Int32)) =>
      b2 (f_X8_lendsNow mNow_3 p1 p2 p3) fun (r_4 : Int32) (mNow_5 : (Nat → Int32)) =>
      if r_4 = 0 then
        some ((-2), mSt, mNow_5)
      else
        b1 (f_X8_settles mSt mNow_5) fun (mSt_6 : (Nat → Int32)) =>
        b1 (f_X8_debt mNow_5 p2 p1) fun (r_7 : Int32) =>
        some (r_7, mSt_6, mNow_5)
def f_X8_lineNow_B143 (mTape : (Nat → Int32)) (mTaped : Int32) (mPos : Int32) (mBegun : Int32) : Option (Int32) :=
  b1 (f_X8_is mTape mTaped mPos mBegun 3 100 114 121) fun (r_6 : Int32) =>
  if r_6 = 0 then
    some (-4)
  else
    some 5
def f_X8_lineNow_B114 (mTape : (Nat → Int32)) (mTaped : Int32) (mPos : Int32) (mBegun : Int32) : Option (Int32) :=
  b1 (f_X8_is mTape mTaped mPos mBegun 4 111 119 101) fun (r_5 : Int32) =>
  if r_5 = 0 then
    f_X8_lineNow_B143 mTape mTaped mPos mBegun
  else
    b1 (f_X8_ends mTape mTaped mBegun 115 0 0) fun (r_7 : Int32) =>
    if r_7 = 0 then
      f_X8_lineNow_B143 mTape mTaped mPos mBegun
    else
      some 4
def f_X8_lineNow_B86 (mTape : (Nat → Int32)) (mTaped : Int32) (mPos : Int32) (mBegun : Int32) : Option (Int32) :=
  b1 (f_X8_is mTape mTaped mPos mBegun 5 109 105 115) fun (r_4 : Int32) =>
  if r_4 = 0 then
    f_X8_lineNow_B114 mTape mTaped mPos mBegun
  else
    b1 (f_X8_ends mTape mTaped mBegun 101 114 0) fun (r_8 : Int32) =>
    if r_8 = 0 then
      f_X8_lineNow_B114 mTape mTaped mPos mBegun
    else
      some 3
def f_X8_lineNow_B56 (mTape : (Nat → Int32)) (mTaped : Int32) (mPos : Int32) (mBegun : Int32) : Option (Int32) :=
  b1 (f_X8_is mTape mTaped mPos mBegun 6 115 113 117) fun (r_3 : Int32) =>
  if r_3 = 0 then
    f_X8_lineNow_B86 mTape mTaped mPos mBegun
  else
    b1 (f_X8_ends mTape mTaped mBegun 105 114 101) fun (r_9 : Int32) =>
    if r_9 = 0 then
      f_X8_lineNow_B86 mTape mTaped mPos mBegun
    else
      some 2
def f_X8_lineNow_B28 (mTape : (Nat → Int32)) (mTaped : Int32) (mPos : Int32) (mBegun : Int32) : Option (Int32) :=
  b1 (f_X8_is mTape mTaped mPos mBegun 5 119 105 100) fun (r_2 : Int32) =>
  if r_2 = 0 then
    f_X8_lineNow_B56 mTape mTaped mPos mBegun
  else
    b1 (f_X8_ends mTape mTaped mBegun 111 119 0) fun (r_10 : Int32) =>
    if r_10 = 0 then
      f_X8_lineNow_B56 mTape mTaped mPos mBegun
    else
      some 1
def f_X8_lineNow (mTape : (Nat → Int32)) (mTaped : Int32) (mPos : Int32) (mBegun : Int32) : Option (Int32) :=
  b1 (f_X8_is mTape mTaped mPos mBegun 5 112 108 97) fun (r_1 : Int32) =>
  if r_1 = 0 then
    f_X8_lineNow_B28 mTape mTaped mPos mBegun
  else
    b1 (f_X8_ends mTape mTaped mBegun 105 110 0) fun (r_11 : Int32) =>
    if r_11 = 0 then
      f_X8_lineNow_B28 mTape mTaped mPos mBegun
    else
      some 0
def f_X8_needs (mBegun : Int32) (mFault : Int32) (mWrongAt : Int32) (p1 : Int32) (p2 : Int32) : Option (Int32 × Int32) :=
  if p1 = 0 then
    if mFault = 0 then
      some (p2, mBegun)
    else
      some (mFault, mWrongAt)
  else
    some (mFault, mWrongAt)
def f_X8_looked (mBegun : Int32) (mSort : Int32) (mValue : Int32) (mFault : Int32) (mWrongAt : Int32) (p1 : Int32) (p2 : Int32) : Option (Int32 × Int32 × Int32) :=
  b2 (
    if mFault = 0 then
      b1 (
        if mSort = 2 then
          some 1
        else
          some 0) fun (t_3 : Int32) =>
      b2 (f_X8_needs mBegun mFault mWrongAt t_3 2) fun (mFault_4 : Int32) (mWrongAt_5 : Int32) =>
      some (mFault_4, mWrongAt_5)
    else
      some (mFault, mWrongAt)) fun (mFault_1 : Int32) (mWrongAt_2 : Int32) =>
  b2 (
    if mFault_1 = 0 then
      b1 (f_X8_in mValue.toInt64 p1.toInt64 p2.toInt64) fun (r_8 : Int32) =>
      b2 (f_X8_needs mBegun mFault_1 mWrongAt_2 r_8 3) fun (mFault_9 : Int32) (mWrongAt_10 : Int32) =>
      some (mFault_9, mWrongAt_10)
    else
      some (mFault_1, mWrongAt_2)) fun (mFault_6 : Int32) (mWrongAt_7 : Int32) =>
  if mFault_6 = 0 then
    some (mValue, mFault_6, mWrongAt_7)
  else
    some (0, mFault_6, mWrongAt_7)
def f_X8_told (p1 : Int64) (p2 : Int64) (p3 : Int32) : Option (Int64) :=
  b1 (f_X8_common p2 p1) fun (r_1 : Int64) =>
  if p3 = 0 then
    b1 (nzl r_1) fun _ =>
    some (p1 / r_1)
  else
    b1 (nzl r_1) fun _ =>
    some (p2 / r_1)
def f_X8_luck (mSt : (Nat → Int32)) (mNow : (Nat → Int32)) (mPeople : Int32) (mPaid : Int32) (mRideSum : Int64) (mOwedSum : Int64) (mAllWays : Int64) (p1 : Int32) (p2 : Int32) (p3 : Int32) (p4 : Int32) : Option (Int64 × (Nat → Int32) × Int32 × Int64 × Int64 × Int64) :=
  b1 (f_X8_in p1.toInt64 0 10) fun (r_1 : Int32) =>
  if r_1 = 0 then
    some (-1, mNow, mPaid, mRideSum, mOwedSum, mAllWays)
  else
    b1 (f_X8_isOne mPeople p2) fun (r_2 : Int32) =>
    if r_2 = 0 then
      some (-1, mNow, mPaid, mRideSum, mOwedSum, mAllWays)
    else
      b1 (f_X8_in p3.toInt64 0 8) fun (r_3 : Int32) =>
      if r_3 = 0 then
        some (-1, mNow, mPaid, mRideSum, mOwedSum, mAllWays)
      else
        b1 (f_X8_isPart p4) fun (r_4 : Int32) =>
        if r_4 = 0 then
          some (-1, mNow, mPaid, mRideSum, mOwedSum, mAllWays)
        else
          b5 (f_X8_findOdds mSt mNow mPeople mPaid p1 p2 p3) fun (mNow_5 : (Nat → Int32)) (mPaid_6 : Int32) (mRideSum_7 : Int64) (mOwedSum_8 : Int64) (mAllWays_9 : Int64) =>
          b1 (f_X8_told mRideSum_7 mAllWays_9 p4) fun (r_10 : Int64) =>
          some (r_10, mNow_5, mPaid_6, mRideSum_7, mOwedSum_8, mAllWays_9)
def f_X8_mean (mSt : (Nat → Int32)) (mNow : (Nat → Int32)) (mPeople : Int32) (mPaid : Int32) (mRideSum : Int64) (mOwedSum : Int64) (mAllWays : Int64) (p1 : Int32) (p2 : Int32) (p3 : Int32) : Option (Int64 × (Nat → Int32) × Int32 × Int64 × Int64 × Int64) :=
  b1 (f_X8_in p1.toInt64 0 10) fun (r_1 : Int32) =>
  if r_1 = 0 then
    some (-1, mNow, mPaid, mRideSum, mOwedSum, mAllWays)
  else
    b1 (f_X8_in p2.toInt64 0 8) fun (r_2 : Int32) =>
    if r_2 = 0 then
      some (-1, mNow, mPaid, mRideSum, mOwedSum, mAllWays)
    else
      b1 (f_X8_isPart p3) fun (r_3 : Int32) =>
      if r_3 = 0 then
        some (-1, mNow, mPaid, mRideSum, mOwedSum, mAllWays)
      else
        b5 (f_X8_findOdds mSt mNow mPeople mPaid p1 (-4) p2) fun (mNow_4 : (Nat → Int32)) (mPaid_5 : Int32) (mRideSum_6 : Int64) (mOwedSum_7 : Int64) (mAllWays_8 : Int64) =>
        b1 (f_X8_told mOwedSum_7 mAllWays_8 p3) fun (r_9 : Int64) =>
        some (r_9, mNow_4, mPaid_5, mRideSum_6, mOwedSum_7, mAllWays_8)
def f_X8_meet (mSt : (Nat → Int32)) (mNow : (Nat → Int32)) (mPeople : Int32) (p1 : Int32) (p2 : Int32) : Option (Int32 × (Nat → Int32)) :=
  b1 (f_X8_areTwo mPeople p1 p2) fun (r_1 : Int32) =>
  if r_1 = 0 then
    some ((-1), mNow)
  else
    b1 (f_X8_starts mSt mNow) fun (mNow_2 : (Nat → Int32)) =>
    b1 (f_X8_height mNow_2 mPeople p1) fun (r_3 : Int32) =>
    b1 (f_X8_height mNow_2 mPeople p2) fun (r_4 : Int32) =>
    if r_4 ≤ r_3 then
      if r_3 ≤ r_4 then
        some ((-4), mNow_2)
      else
        some (p2, mNow_2)
    else
      some (p1, mNow_2)
def f_X8_net (mSt : (Nat → Int32)) (mNow : (Nat → Int32)) (mPeople : Int32) (p1 : Int32) : Option (Int32 × (Nat → Int32)) :=
  b1 (f_X8_isOne mPeople p1) fun (r_1 : Int32) =>
  if r_1 = 0 then
    some ((-1), mNow)
  else
    b1 (f_X8_starts mSt mNow) fun (mNow_2 : (Nat → Int32)) =>
    b1 (f_X8_netOf mNow_2 mPeople p1) fun (r_3 : Int32) =>
    some (1000 + r_3, mNow_2)
def f_X8_one (mSt : (Nat → Int32)) (mNow : (Nat → Int32)) (mPeople : Int32) (p1 : Int32) (p2 : Int32) : Option (Int32 × (Nat → Int32)) :=
  b1 (f_X8_isOne mPeople p1) fun (r_1 : Int32) =>
  if r_1 = 0 then
    some ((-1), mNow)
  else
    b1 (f_X8_starts mSt mNow) fun (mNow_2 : (Nat → Int32)) =>
    if p2 = 0 then
      b1 (f_X8_of mNow_2 p1 p2) fun (r_3 : Int32) =>
      some (r_3, mNow_2)
    else
      if p2 = 1 then
        b1 (f_X8_of mNow_2 p1 p2) fun (r_4 : Int32) =>
        some (r_4, mNow_2)
      else
        if p2 = 2 then
          b1 (f_X8_of mNow_2 p1 p2) fun (r_5 : Int32) =>
          some (r_5, mNow_2)
        else
          if p2 = 3 then
            b1 (f_X8_owesAll mNow_2 mPeople p1) fun (r_6 : Int32) =>
            some (r_6, mNow_2)
          else
            if p2 = 4 then
              b1 (f_X8_isOwed mNow_2 mPeople p1) fun (r_7 : Int32) =>
              some (r_7, mNow_2)
            else
              if p2 = 5 then
                b1 (f_X8_height mNow_2 mPeople p1) fun (r_8 : Int32) =>
                some (r_8, mNow_2)
              else
                if p2 = 6 then
                  b1 (f_X8_will mNow_2 mPeople p1) fun (r_9 : Int32) =>
                  some (r_9, mNow_2)
                else
                  some ((-1), mNow_2)
def f_X8_owes (mSt : (Nat → Int32)) (mPeople : Int32) (p1 : Int32) (p2 : Int32) : Option (Int32) :=
  b1 (f_X8_areTwo mPeople p1 p2) fun (r_1 : Int32) =>
  if r_1 = 0 then
    some (-1)
  else
    b1 (rd mSt 183 ((15 + (5 * p1)) + p2)) fun (a_2 : Int32) =>
    some a_2
def f_X8_pay (mSt : (Nat → Int32)) (mNow : (Nat → Int32)) (mPeople : Int32) (p1 : Int32) (p2 : Int32) (p3 : Int32) : Option (Int32 × (Nat → Int32) × (Nat → Int32)) :=
  b1 (f_X8_areTwo mPeople p1 p2) fun (r_1 : Int32) =>
  if r_1 = 0 then
    some ((-1), mSt, mNow)
  else
    b1 (f_X8_in p3.toInt64 1 99) fun (r_2 : Int32) =>
    if r_2 = 0 then
      some ((-1), mSt, mNow)
    else
      b1 (f_X8_starts mSt mNow) fun (mNow_3 : (Nat → Int32)) =>
      b1 (f_X8_debt mNow_3 p1 p2) fun (r_4 : Int32) =>
      if r_4 < p3 then
        some ((-2), mSt, mNow_3)
      else
        b1 (f_X8_of mNow_3 p1 1) fun (r_5 : Int32) =>
        if p3 ≤ r_5 then
          b1 (f_X8_paysTo mNow_3 p1 p2 p3) fun (mNow_6 : (Nat → Int32)) =>
          b1 (f_X8_settles mSt mNow_6) fun (mSt_7 : (Nat → Int32)) =>
          b1 (f_X8_debt mNow_6 p1 p2) fun (r_8 : Int32) =>
          some (r_8, mSt_7, mNow_6)
        else
          some ((-2), mSt, mNow_3)
def f_X8_read_L26 (mSt : (Nat → Int32)) : Nat → Int32 → (Nat → Int32) → Option ((Nat → Int32))
  | 0, _, _ => none
  | n + 1, v5_3, mBefore_4 =>
    if 61 ≤ v5_3 then
      some mBefore_4
    else
      b1 (rd mSt 183 v5_3) fun (a_6 : Int32) =>
      b1 (wr mBefore_4 61 v5_3 a_6) fun (mBefore_7 : Nat → Int32) =>
      f_X8_read_L26 mSt n (v5_3 + 1) mBefore_7
def f_X8_read_L77 (mLanes : (Nat → Int32)) (mSizes : (Nat → Int32)) (p1 : Int32) (p2 : Int32) (p3 : Int32) (v7_10 : Int32) : Nat → Int32 → Int32 → Option (Int32)
  | 0, _, _ => none
  | n + 1, v5_17, v8_18 =>
    if 3 ≤ v8_18 then
      some v5_17
    else
      if v5_17 = 0 then
        b1 (rd mLanes 4 p1) fun (a_20 : Int32) =>
        if a_20 = (-4) then
          f_X8_read_L77 mLanes mSizes p1 p2 p3 v7_10 n 1 (v8_18 + 1)
        else
          b1 (rd mLanes 4 p1) fun (a_21 : Int32) =>
          if a_21 = p2 then
            if (lg_cmp ((p3.toInt64 + ((3 * v7_10).toInt64)) + v8_18.toInt64) 0) < 0 then
              f_X8_read_L77 mLanes mSizes p1 p2 p3 v7_10 n 2 (v8_18 + 1)
            else
              b1 (rd mSizes 4 p1) fun (a_22 : Int32) =>
              if (lg_cmp ((p3.toInt64 + ((3 * v7_10).toInt64)) + v8_18.toInt64) a_22.toInt64) < 0 then
                f_X8_read_L77 mLanes mSizes p1 p2 p3 v7_10 n 0 (v8_18 + 1)
              else
                f_X8_read_L77 mLanes mSizes p1 p2 p3 v7_10 n 2 (v8_18 + 1)
          else
            f_X8_read_L77 mLanes mSizes p1 p2 p3 v7_10 n 3 (v8_18 + 1)
      else
        some v5_17
def f_X8_read_L217 (mBefore_5 : (Nat → Int32)) : Nat → Int32 → (Nat → Int32) → Option ((Nat → Int32))
  | 0, _, _ => none
  | n + 1, v9_29, mSt_30 =>
    if 61 ≤ v9_29 then
      some mSt_30
    else
      b1 (rd mBefore_5 61 v9_29) fun (a_32 : Int32) =>
      b1 (wr mSt_30 183 v9_29 a_32) fun (mSt_33 : Nat → Int32) =>
      f_X8_read_L217 mBefore_5 n (v9_29 + 1) mSt_33
def f_X8_read_L62 (mPeople : Int32) (mLanes : (Nat → Int32)) (mSizes : (Nat → Int32)) (mCells : (Nat → Int32)) (mTorn : Int32) (p1 : Int32) (p2 : Int32) (p3 : Int32) (p4 : Int32) (mBefore_5 : (Nat → Int32)) : Nat → Int32 → Int32 → Int32 → (Nat → Int32) → (Nat → Int32) → Option ((Int32 × (Nat → Int32) × (Nat → Int32) × Int32 × (Nat → Int32)) ⊕ (Int32 × Int32 × (Nat → Int32) × (Nat → Int32)))
  | 0, _, _, _, _, _ => none
  | n + 1, v5_8, v6_9, v7_10, mSt_11, mNow_12 =>
    if p4 ≤ v7_10 then
      some (Sum.inr (v5_8, v6_9, mSt_11, mNow_12))
    else
      if v5_8 = 0 then
        b1 (f_X8_read_L77 mLanes mSizes p1 p2 p3 v7_10 400 v5_8 0) fun (v5_19 : Int32) =>
        if v5_19 = 0 then
          b1 (rd mCells 160 (((40 * p1) + p3) + (3 * v7_10))) fun (a_23 : Int32) =>
          b1 (rd mCells 160 ((((40 * p1) + p3) + (3 * v7_10)) + 1)) fun (a_24 : Int32) =>
          b1 (rd mCells 160 ((((40 * p1) + p3) + (3 * v7_10)) + 2)) fun (a_25 : Int32) =>
          b3 (f_X8_pay mSt_11 mNow_12 mPeople a_23 a_24 a_25) fun (r_26 : Int32) (mSt_27 : (Nat → Int32)) (mNow_28 : (Nat → Int32)) =>
          if 0 ≤ r_26 then
            f_X8_read_L62 mPeople mLanes mSizes mCells mTorn p1 p2 p3 p4 mBefore_5 n v5_19 (v6_9 + 1) (v7_10 + 1) mSt_27 mNow_28
          else
            b1 (f_X8_read_L217 mBefore_5 400 0 mSt_27) fun (mSt_31 : (Nat → Int32)) =>
            some (Sum.inl ((-20) - v7_10, mSt_31, mNow_28, mTorn, mBefore_5))
        else
          f_X8_read_L62 mPeople mLanes mSizes mCells mTorn p1 p2 p3 p4 mBefore_5 n v5_19 v6_9 (v7_10 + 1) mSt_11 mNow_12
      else
        some (Sum.inr (v5_8, v6_9, mSt_11, mNow_12))
def f_X8_read (mSt : (Nat → Int32)) (mNow : (Nat → Int32)) (mPeople : Int32) (mLanes : (Nat → Int32)) (mSizes : (Nat → Int32)) (mCells : (Nat → Int32)) (mTorn : Int32) (mBefore : (Nat → Int32)) (p1 : Int32) (p2 : Int32) (p3 : Int32) (p4 : Int32) : Option (Int32 × (Nat → Int32) × (Nat → Int32) × Int32 × (Nat → Int32)) :=
  b1 (f_X8_isSheet p1 p2) fun (r_1 : Int32) =>
  if r_1 = 0 then
    some ((-1), mSt, mNow, mTorn, mBefore)
  else
    b1 (f_X8_in p4.toInt64 0 13) fun (r_2 : Int32) =>
    if r_2 = 0 then
      some ((-1), mSt, mNow, mTorn, mBefore)
    else
      b1 (f_X8_read_L26 mSt 400 0 mBefore) fun (mBefore_5 : (Nat → Int32)) =>
      bs4 (f_X8_read_L62 mPeople mLanes mSizes mCells mTorn p1 p2 p3 p4 mBefore_5 400 0 0 0 mSt mNow) fun (v5_13 : Int32) (v6_14 : Int32) (mSt_15 : (Nat → Int32)) (mNow_16 : (Nat → Int32)) =>
      some (v6_14, mSt_15, mNow_16, v5_13, mBefore_5)
def f_X8_takes_L8 (mTape : (Nat → Int32)) (mTaped : Int32) : Nat → Int32 → Option (Int32)
  | 0, _ => none
  | n + 1, mPos_1 =>
    b1 (f_X8_byteAt mTape mTaped mPos_1) fun (r_3 : Int32) =>
    if r_3 = 32 then
      f_X8_takes_L8 mTape mTaped n (mPos_1 + 1)
    else
      some mPos_1
def f_X8_takes_L140 (mTape : (Nat → Int32)) (mTaped : Int32) (mPos_2 : Int32) : Nat → Int32 → Int32 → Option (Int32 × Int32)
  | 0, _, _ => none
  | n + 1, mPos_10, mValue_11 =>
    b1 (f_X8_byteAt mTape mTaped mPos_10) fun (r_14 : Int32) =>
    b1 (f_X8_in r_14.toInt64 48 57) fun (r_15 : Int32) =>
    if r_15 = 0 then
      some (mPos_10, mValue_11)
    else
      b1 (
        if 2 ≤ (mPos_10 - mPos_2) then
          some mValue_11
        else
          b1 (f_X8_byteAt mTape mTaped mPos_10) fun (r_17 : Int32) =>
          some (((10 * mValue_11) + r_17) - 48)) fun (t_16 : Int32) =>
      f_X8_takes_L140 mTape mTaped mPos_2 n (mPos_10 + 1) t_16
def f_X8_takes_L82 (mTape : (Nat → Int32)) (mTaped : Int32) : Nat → Int32 → Option (Int32)
  | 0, _ => none
  | n + 1, mPos_21 =>
    b1 (f_X8_byteAt mTape mTaped mPos_21) fun (r_23 : Int32) =>
    b1 (f_X8_in r_23.toInt64 97 122) fun (r_24 : Int32) =>
    if r_24 = 0 then
      some mPos_21
    else
      f_X8_takes_L82 mTape mTaped n (mPos_21 + 1)
def f_X8_takes (mTape : (Nat → Int32)) (mTaped : Int32) (mPos : Int32) (mBegun : Int32) (mSort : Int32) (mValue : Int32) (mFault : Int32) (mWrongAt : Int32) : Option (Int32 × Int32 × Int32 × Int32 × Int32 × Int32) :=
  if mFault ≤ 0 then
    b1 (f_X8_takes_L8 mTape mTaped 400 mPos) fun (mPos_2 : Int32) =>
    b1 (f_X8_byteAt mTape mTaped mPos_2) fun (r_4 : Int32) =>
    if 0 ≤ r_4 then
      b1 (f_X8_in r_4.toInt64 97 122) fun (r_5 : Int32) =>
      if r_5 = 0 then
        b1 (f_X8_in r_4.toInt64 48 57) fun (r_6 : Int32) =>
        if r_6 = 0 then
          b1 (
            if r_4 = 59 then
              some 1
            else
              some 0) fun (t_7 : Int32) =>
          b2 (f_X8_needs mPos_2 mFault mWrongAt t_7 1) fun (mFault_8 : Int32) (mWrongAt_9 : Int32) =>
          some (mPos_2 + 1, mPos_2, 3, mValue, mFault_8, mWrongAt_9)
        else
          b2 (f_X8_takes_L140 mTape mTaped mPos_2 400 mPos_2 0) fun (mPos_12 : Int32) (mValue_13 : Int32) =>
          b1 (
            if 2 < (mPos_12 - mPos_2) then
              some 0
            else
              some 1) fun (t_18 : Int32) =>
          b2 (f_X8_needs mPos_2 mFault mWrongAt t_18 1) fun (mFault_19 : Int32) (mWrongAt_20 : Int32) =>
          some (mPos_12, mPos_2, 2, mValue_13, mFault_19, mWrongAt_20)
      else
        b1 (f_X8_takes_L82 mTape mTaped 400 mPos_2) fun (mPos_22 : Int32) =>
        some (mPos_22, mPos_2, 1, mValue, mFault, mWrongAt)
    else
      some (mPos_2, mPos_2, 0, mValue, mFault, mWrongAt)
  else
    some (mPos, mBegun, mSort, mValue, mFault, mWrongAt)
def f_X8_readNumber (mTape : (Nat → Int32)) (mTaped : Int32) (mPos : Int32) (mBegun : Int32) (mSort : Int32) (mValue : Int32) (mFault : Int32) (mWrongAt : Int32) (p1 : Int32) (p2 : Int32) : Option (Int32 × Int32 × Int32 × Int32 × Int32 × Int32 × Int32) :=
  b3 (f_X8_looked mBegun mSort mValue mFault mWrongAt p1 p2) fun (r_1 : Int32) (mFault_2 : Int32) (mWrongAt_3 : Int32) =>
  b6 (f_X8_takes mTape mTaped mPos mBegun mSort mValue mFault_2 mWrongAt_3) fun (mPos_4 : Int32) (mBegun_5 : Int32) (mSort_6 : Int32) (mValue_7 : Int32) (mFault_8 : Int32) (mWrongAt_9 : Int32) =>
  some (r_1, mPos_4, mBegun_5, mSort_6, mValue_7, mFault_8, mWrongAt_9)
def f_X8_readDebt (mDraft : (Nat → Int32)) (mToldDebts : Int32) (mHighest : Int32) (mTape : (Nat → Int32)) (mTaped : Int32) (mPos : Int32) (mBegun : Int32) (mSort : Int32) (mValue : Int32) (mFault : Int32) (mWrongAt : Int32) : Option ((Nat → Int32) × Int32 × Int32 × Int32 × Int32 × Int32 × Int32 × Int32 × Int32) :=
  b7 (f_X8_readNumber mTape mTaped mPos mBegun mSort mValue mFault mWrongAt 0 4) fun (r_1 : Int32) (mPos_2 : Int32) (mBegun_3 : Int32) (mSort_4 : Int32) (mValue_5 : Int32) (mFault_6 : Int32) (mWrongAt_7 : Int32) =>
  b3 (f_X8_looked mBegun_3 mSort_4 mValue_5 mFault_6 mWrongAt_7 0 4) fun (r_8 : Int32) (mFault_9 : Int32) (mWrongAt_10 : Int32) =>
  b1 (
    if r_1 = r_8 then
      some 0
    else
      some 1) fun (t_11 : Int32) =>
  b2 (f_X8_needs mBegun_3 mFault_9 mWrongAt_10 t_11 3) fun (mFault_12 : Int32) (mWrongAt_13 : Int32) =>
  b1 (
    if ((mToldDebts >>> (((5 * r_1) + r_8) &&& 31)) &&& 1) = 0 then
      some 1
    else
      some 0) fun (t_14 : Int32) =>
  b2 (f_X8_needs mBegun_3 mFault_12 mWrongAt_13 t_14 4) fun (mFault_15 : Int32) (mWrongAt_16 : Int32) =>
  b1 (
    if r_1 ≤ mHighest then
      some mHighest
    else
      some r_1) fun (t_17 : Int32) =>
  b1 (
    if r_8 ≤ t_17 then
      some t_17
    else
      some r_8) fun (t_18 : Int32) =>
  b6 (f_X8_takes mTape mTaped mPos_2 mBegun_3 mSort_4 mValue_5 mFault_15 mWrongAt_16) fun (mPos_19 : Int32) (mBegun_20 : Int32) (mSort_21 : Int32) (mValue_22 : Int32) (mFault_23 : Int32) (mWrongAt_24 : Int32) =>
  b7 (f_X8_readNumber mTape mTaped mPos_19 mBegun_20 mSort_21 mValue_22 mFault_23 mWrongAt_24 1 99) fun (r_25 : Int32) (mPos_26 : Int32) (mBegun_27 : Int32) (mSort_28 : Int32) (mValue_29 : Int32) (mFault_30 : Int32) (mWrongAt_31 : Int32) =>
  b1 (wr mDraft 61 ((15 + (5 * r_1)) + r_8) r_25) fun (mDraft_32 : Nat → Int32) =>
  some (mDraft_32, mToldDebts ||| ((1 : Int32) <<< (((5 * r_1) + r_8) &&& 31)), t_18, mPos_26, mBegun_27, mSort_28, mValue_29, mFault_30, mWrongAt_31)
def f_X8_readLineOf (mDraft : (Nat → Int32)) (mDPeople : Int32) (mToldDebts : Int32) (mHighest : Int32) (mTape : (Nat → Int32)) (mTaped : Int32) (mPos : Int32) (mBegun : Int32) (mSort : Int32) (mValue : Int32) (mFault : Int32) (mWrongAt : Int32) (p1 : Int32) : Option ((Nat → Int32) × Int32 × Int32 × Int32 × Int32 × Int32 × Int32 × Int32 × Int32 × Int32) :=
  if p1 = 4 then
    b9 (f_X8_readDebt mDraft mToldDebts mHighest mTape mTaped mPos mBegun mSort mValue mFault mWrongAt) fun (mDraft_1 : (Nat → Int32)) (mToldDebts_2 : Int32) (mHighest_3 : Int32) (mPos_4 : Int32) (mBegun_5 : Int32) (mSort_6 : Int32) (mValue_7 : Int32) (mFault_8 : Int32) (mWrongAt_9 : Int32) =>
    some (mDraft_1, mDPeople, mToldDebts_2, mHighest_3, mPos_4, mBegun_5, mSort_6, mValue_7, mFault_8, mWrongAt_9)
  else
    if p1 = 5 then
      b7 (f_X8_readNumber mTape mTaped mPos mBegun mSort mValue mFault mWrongAt 0 9) fun (r_10 : Int32) (mPos_11 : Int32) (mBegun_12 : Int32) (mSort_13 : Int32) (mValue_14 : Int32) (mFault_15 : Int32) (mWrongAt_16 : Int32) =>
      b1 (wr mDraft 61 41 r_10) fun (mDraft_17 : Nat → Int32) =>
      some (mDraft_17, mDPeople, mToldDebts, mHighest, mPos_11, mBegun_12, mSort_13, mValue_14, mFault_15, mWrongAt_16)
    else
      b1 (wr mDraft 61 ((3 * mDPeople) + 0) p1) fun (mDraft_18 : Nat → Int32) =>
      b7 (f_X8_readNumber mTape mTaped mPos mBegun mSort mValue mFault mWrongAt 0 99) fun (r_19 : Int32) (mPos_20 : Int32) (mBegun_21 : Int32) (mSort_22 : Int32) (mValue_23 : Int32) (mFault_24 : Int32) (mWrongAt_25 : Int32) =>
      b1 (wr mDraft_18 61 ((3 * mDPeople) + 1) r_19) fun (mDraft_26 : Nat → Int32) =>
      b7 (f_X8_readNumber mTape mTaped mPos_20 mBegun_21 mSort_22 mValue_23 mFault_24 mWrongAt_25 0 9) fun (r_27 : Int32) (mPos_28 : Int32) (mBegun_29 : Int32) (mSort_30 : Int32) (mValue_31 : Int32) (mFault_32 : Int32) (mWrongAt_33 : Int32) =>
      b1 (wr mDraft_26 61 ((3 * mDPeople) + 2) r_27) fun (mDraft_34 : Nat → Int32) =>
      some (mDraft_34, mDPeople + 1, mToldDebts, mHighest, mPos_28, mBegun_29, mSort_30, mValue_31, mFault_32, mWrongAt_33)
def f_X8_readLine (mDraft : (Nat → Int32)) (mDPeople : Int32) (mHasDry : Int32) (mToldDebts : Int32) (mHighest : Int32) (mTape : (Nat → Int32)) (mTaped : Int32) (mPos : Int32) (mBegun : Int32) (mSort : Int32) (mValue : Int32) (mFault : Int32) (mWrongAt : Int32) : Option ((Nat → Int32) × Int32 × Int32 × Int32 × Int32 × Int32 × Int32 × Int32 × Int32 × Int32 × Int32) :=
  b1 (
    if mSort = 1 then
      b1 (f_X8_lineNow mTape mTaped mPos mBegun) fun (r_2 : Int32) =>
      some r_2
    else
      some (-4)) fun (t_1 : Int32) =>
  b1 (
    if t_1 = (-4) then
      some 0
    else
      some 1) fun (t_3 : Int32) =>
  b2 (f_X8_needs mBegun mFault mWrongAt t_3 2) fun (mFault_4 : Int32) (mWrongAt_5 : Int32) =>
  b1 (
    if 4 ≤ t_1 then
      some 1
    else
      if 5 ≤ mDPeople then
        some 0
      else
        some 1) fun (t_6 : Int32) =>
  b2 (f_X8_needs mBegun mFault_4 mWrongAt_5 t_6 5) fun (mFault_7 : Int32) (mWrongAt_8 : Int32) =>
  b1 (
    if t_1 = 5 then
      if mHasDry = 0 then
        some 1
      else
        some 0
    else
      some 1) fun (t_9 : Int32) =>
  b2 (f_X8_needs mBegun mFault_7 mWrongAt_8 t_9 4) fun (mFault_10 : Int32) (mWrongAt_11 : Int32) =>
  b1 (
    if mHasDry = 0 then
      if t_1 = 5 then
        some 1
      else
        some 0
    else
      some 1) fun (t_12 : Int32) =>
  b1 (bz t_12) fun (z_13 : Int32) =>
  b6 (f_X8_takes mTape mTaped mPos mBegun mSort mValue mFault_10 mWrongAt_11) fun (mPos_14 : Int32) (mBegun_15 : Int32) (mSort_16 : Int32) (mValue_17 : Int32) (mFault_18 : Int32) (mWrongAt_19 : Int32) =>
  if mFault_18 ≤ 0 then
    b10 (f_X8_readLineOf mDraft mDPeople mToldDebts mHighest mTape mTaped mPos_14 mBegun_15 mSort_16 mValue_17 mFault_18 mWrongAt_19 t_1) fun (mDraft_20 : (Nat → Int32)) (mDPeople_21 : Int32) (mToldDebts_22 : Int32) (mHighest_23 : Int32) (mPos_24 : Int32) (mBegun_25 : Int32) (mSort_26 : Int32) (mValue_27 : Int32) (mFault_28 : Int32) (mWrongAt_29 : Int32) =>
    b2 (
      if mFault_28 = 0 then
        b1 (
          if mSort_26 = 3 then
            some 1
          else
            some 0) fun (t_32 : Int32) =>
        b2 (f_X8_needs mBegun_25 mFault_28 mWrongAt_29 t_32 2) fun (mFault_33 : Int32) (mWrongAt_34 : Int32) =>
        some (mFault_33, mWrongAt_34)
      else
        some (mFault_28, mWrongAt_29)) fun (mFault_30 : Int32) (mWrongAt_31 : Int32) =>
    b6 (f_X8_takes mTape mTaped mPos_24 mBegun_25 mSort_26 mValue_27 mFault_30 mWrongAt_31) fun (mPos_35 : Int32) (mBegun_36 : Int32) (mSort_37 : Int32) (mValue_38 : Int32) (mFault_39 : Int32) (mWrongAt_40 : Int32) =>
    some (mDraft_20, mDPeople_21, z_13, mToldDebts_22, mHighest_23, mPos_35, mBegun_36, mSort_37, mValue_38, mFault_39, mWrongAt_40)
  else
    some (mDraft, mDPeople, z_13, mToldDebts, mHighest, mPos_14, mBegun_15, mSort_16, mValue_17, mFault_18, mWrongAt_19)
def f_X8_rides (mSt : (Nat → Int32)) (mNow : (Nat → Int32)) (mPeople : Int32) (mPaid : Int32) (p1 : Int32) : Option (Int32 × (Nat → Int32) × Int32) :=
  b1 (f_X8_isOne mPeople p1) fun (r_1 : Int32) =>
  if r_1 = 0 then
    some ((-1), mNow, mPaid)
  else
    b1 (f_X8_starts mSt mNow) fun (mNow_2 : (Nat → Int32)) =>
    b3 (f_X8_daysTo mNow_2 mPeople mPaid p1) fun (r_3 : Int32) (mNow_4 : (Nat → Int32)) (mPaid_5 : Int32) =>
    some (r_3, mNow_4, mPaid_5)
def f_X8_ring_B23 (mSt : (Nat → Int32)) (mNow : (Nat → Int32)) (mPeople : Int32) (mRow : (Nat → Int32)) (mRingMuch : Int32) (p1 : Int32) : Option (Int32 × (Nat → Int32) × (Nat → Int32) × Int32) :=
  b1 (f_X8_starts mSt mNow) fun (mNow_2 : (Nat → Int32)) =>
  b3 (f_X8_findRing mNow_2 mPeople mRow mRingMuch) fun (r_3 : Int32) (mRow_4 : (Nat → Int32)) (mRingMuch_5 : Int32) =>
  if r_3 = (-4) then
    some ((-4), mNow_2, mRow_4, mRingMuch_5)
  else
    if p1 = 0 then
      some (r_3, mNow_2, mRow_4, mRingMuch_5)
    else
      if p1 = 1 then
        some (mRingMuch_5, mNow_2, mRow_4, mRingMuch_5)
      else
        if r_3 ≤ (p1 - 10) then
          some ((-4), mNow_2, mRow_4, mRingMuch_5)
        else
          b1 (rd mRow_4 5 (p1 - 10)) fun (a_6 : Int32) =>
          some (a_6, mNow_2, mRow_4, mRingMuch_5)
def f_X8_ring (mSt : (Nat → Int32)) (mNow : (Nat → Int32)) (mPeople : Int32) (mRow : (Nat → Int32)) (mRingMuch : Int32) (p1 : Int32) : Option (Int32 × (Nat → Int32) × (Nat → Int32) × Int32) :=
  b1 (f_X8_isPart p1) fun (r_1 : Int32) =>
  if r_1 = 0 then
    b1 (f_X8_in p1.toInt64 10 14) fun (r_7 : Int32) =>
    if r_7 = 0 then
      some ((-1), mNow, mRow, mRingMuch)
    else
      f_X8_ring_B23 mSt mNow mPeople mRow mRingMuch p1
  else
    f_X8_ring_B23 mSt mNow mPeople mRow mRingMuch p1
def f_X8_rule (mSt : (Nat → Int32)) (mNow : (Nat → Int32)) (mPeople : Int32) (p1 : Int32) : Option (Int32 × (Nat → Int32)) :=
  b1 (f_X8_starts mSt mNow) fun (mNow_1 : (Nat → Int32)) =>
  if p1 = 0 then
    some (mPeople, mNow_1)
  else
    if p1 = 1 then
      b1 (rd mSt 183 40) fun (a_2 : Int32) =>
      some (a_2, mNow_1)
    else
      if p1 = 2 then
        b1 (rd mSt 183 41) fun (a_3 : Int32) =>
        some (a_3, mNow_1)
      else
        if p1 = 3 then
          b1 (f_X8_riding mNow_1 mPeople) fun (r_4 : Int32) =>
          some (r_4, mNow_1)
        else
          if p1 = 4 then
            b1 (f_X8_allOwed mNow_1 mPeople) fun (r_5 : Int32) =>
            some (r_5, mNow_1)
          else
            if p1 = 5 then
              b1 (f_X8_allMoney mNow_1 mPeople) fun (r_6 : Int32) =>
              some (r_6, mNow_1)
            else
              some ((-1), mNow_1)
def f_X8_runs_L31 (mPeople : Int32) (p1 : Int32) : Nat → Int32 → Int32 → (Nat → Int32) → Int32 → Option (Int32 × (Nat → Int32) × Int32)
  | 0, _, _, _, _ => none
  | n + 1, v3_4, v4_5, mNow_6, mPaid_7 =>
    if p1 < v4_5 then
      some (v3_4, mNow_6, mPaid_7)
    else
      b1 (
        if v3_4 = (-4) then
          b1 (f_X8_allOwed mNow_6 mPeople) fun (r_12 : Int32) =>
          if r_12 = 0 then
            some v4_5
          else
            some v3_4
        else
          some v3_4) fun (t_11 : Int32) =>
      if p1 ≤ v4_5 then
        f_X8_runs_L31 mPeople p1 n t_11 (v4_5 + 1) mNow_6 mPaid_7
      else
        b2 (f_X8_dayGoes mNow_6 mPeople mPaid_7) fun (mNow_13 : (Nat → Int32)) (mPaid_14 : Int32) =>
        f_X8_runs_L31 mPeople p1 n t_11 (v4_5 + 1) mNow_13 mPaid_14
def f_X8_runs (mSt : (Nat → Int32)) (mNow : (Nat → Int32)) (mPeople : Int32) (mPaid : Int32) (p1 : Int32) (p2 : Int32) : Option (Int32 × (Nat → Int32) × Int32) :=
  b1 (f_X8_isFar p1) fun (r_1 : Int32) =>
  if r_1 = 0 then
    some ((-1), mNow, mPaid)
  else
    b1 (f_X8_in p2.toInt64 0 3) fun (r_2 : Int32) =>
    if r_2 = 0 then
      some ((-1), mNow, mPaid)
    else
      b1 (f_X8_starts mSt mNow) fun (mNow_3 : (Nat → Int32)) =>
      b3 (f_X8_runs_L31 mPeople p1 400 (-4) 0 mNow_3 mPaid) fun (v3_8 : Int32) (mNow_9 : (Nat → Int32)) (mPaid_10 : Int32) =>
      if p2 = 0 then
        b1 (f_X8_allOwed mNow_9 mPeople) fun (r_17 : Int32) =>
        some (r_17, mNow_9, mPaid_10)
      else
        if p2 = 1 then
          b1 (f_X8_riding mNow_9 mPeople) fun (r_16 : Int32) =>
          some (r_16, mNow_9, mPaid_10)
        else
          if p2 = 2 then
            b1 (f_X8_allMoney mNow_9 mPeople) fun (r_15 : Int32) =>
            some (r_15, mNow_9, mPaid_10)
          else
            some (v3_8, mNow_9, mPaid_10)
def f_X8_see (mSt : (Nat → Int32)) (mPeople : Int32) (p1 : Int32) (p2 : Int32) (p3 : Int32) : Option (Int32 × (Nat → Int32)) :=
  b1 (f_X8_in p1.toInt64 0 30) fun (r_1 : Int32) =>
  if r_1 = 0 then
    some ((-1), mSt)
  else
    b1 (f_X8_isOne mPeople p2) fun (r_2 : Int32) =>
    if r_2 = 0 then
      some ((-1), mSt)
    else
      b1 (rd mSt 183 42) fun (a_3 : Int32) =>
      if a_3 = 6 then
        some ((-3), mSt)
      else
        b1 (rd mSt 183 42) fun (a_4 : Int32) =>
        b1 (wr mSt 183 (43 + (3 * a_4)) p1) fun (mSt_5 : Nat → Int32) =>
        b1 (wr mSt_5 183 ((43 + (3 * a_4)) + 1) p2) fun (mSt_6 : Nat → Int32) =>
        b1 (f_X8_flag p3) fun (r_7 : Int32) =>
        b1 (wr mSt_6 183 ((43 + (3 * a_4)) + 2) r_7) fun (mSt_8 : Nat → Int32) =>
        b1 (rd mSt_8 183 42) fun (a_9 : Int32) =>
        b1 (wr mSt_8 183 42 (a_9 + 1)) fun (mSt_10 : Nat → Int32) =>
        b1 (rd mSt_10 183 42) fun (a_11 : Int32) =>
        some (a_11, mSt_10)
def f_X8_sheet_L40 (p1 : Int32) : Nat → Int32 → (Nat → Int32) → Option ((Nat → Int32))
  | 0, _, _ => none
  | n + 1, v4_4, mCells_5 =>
    if 40 ≤ v4_4 then
      some mCells_5
    else
      b1 (wr mCells_5 160 ((40 * p1) + v4_4) 0) fun (mCells_7 : Nat → Int32) =>
      f_X8_sheet_L40 p1 n (v4_4 + 1) mCells_7
def f_X8_sheet (mLanes : (Nat → Int32)) (mSizes : (Nat → Int32)) (mCells : (Nat → Int32)) (p1 : Int32) (p2 : Int32) (p3 : Int32) : Option (Int32 × (Nat → Int32) × (Nat → Int32) × (Nat → Int32)) :=
  b1 (f_X8_isSheet p1 p2) fun (r_1 : Int32) =>
  if r_1 = 0 then
    some ((-1), mLanes, mSizes, mCells)
  else
    if p3 ≤ 40 then
      if 0 ≤ p3 then
        b1 (wr mLanes 4 p1 p2) fun (mLanes_2 : Nat → Int32) =>
        b1 (wr mSizes 4 p1 p3) fun (mSizes_3 : Nat → Int32) =>
        b1 (f_X8_sheet_L40 p1 400 0 mCells) fun (mCells_6 : (Nat → Int32)) =>
        some (1, mLanes_2, mSizes_3, mCells_6)
      else
        some ((-14), mLanes, mSizes, mCells)
    else
      some ((-1), mLanes, mSizes, mCells)
def f_X8_text_L20 (mTape : (Nat → Int32)) (mTaped : Int32) : Nat → Int32 → (Nat → Int32) → Int32 → Int32 → Int32 → Int32 → Int32 → Int32 → Int32 → Int32 → Int32 → Int32 → Option (Int32 × (Nat → Int32) × Int32 × Int32 × Int32 × Int32 × Int32 × Int32 × Int32 × Int32 × Int32 × Int32)
  | 0, _, _, _, _, _, _, _, _, _, _, _, _ => none
  | n + 1, v1_12, mDraft_13, mDPeople_14, mHasDry_15, mToldDebts_16, mHighest_17, mPos_18, mBegun_19, mSort_20, mValue_21, mFault_22, mWrongAt_23 =>
    if mFault_22 = 0 then
      if mSort_20 = 0 then
        some (v1_12, mDraft_13, mDPeople_14, mHasDry_15, mToldDebts_16, mHighest_17, mPos_18, mBegun_19, mSort_20, mValue_21, mFault_22, mWrongAt_23)
      else
        b11 (f_X8_readLine mDraft_13 mDPeople_14 mHasDry_15 mToldDebts_16 mHighest_17 mTape mTaped mPos_18 mBegun_19 mSort_20 mValue_21 mFault_22 mWrongAt_23) fun (mDraft_36 : (Nat → Int32)) (mDPeople_37 : Int32) (mHasDry_38 : Int32) (mToldDebts_39 : Int32) (mHighest_40 : Int32) (mPos_41 : Int32) (mBegun_42 : Int32) (mSort_43 : Int32) (mValue_44 : Int32) (mFault_45 : Int32) (mWrongAt_46 : Int32) =>
        f_X8_text_L20 mTape mTaped n (v1_12 + 1) mDraft_36 mDPeople_37 mHasDry_38 mToldDebts_39 mHighest_40 mPos_41 mBegun_42 mSort_43 mValue_44 mFault_45 mWrongAt_46
    else
      some (v1_12, mDraft_13, mDPeople_14, mHasDry_15, mToldDebts_16, mHighest_17, mPos_18, mBegun_19, mSort_20, mValue_21, mFault_22, mWrongAt_23)
def f_X8_text (mSt : (Nat → Int32)) (mIsKept : (Nat → Int32)) (mPeople : Int32) (mDraft : (Nat → Int32)) (mTape : (Nat → Int32)) (mTaped : Int32) (mBegun : Int32) (mSort : Int32) (mValue : Int32) (mWrongAt : Int32) : Option (Int32 × (Nat → Int32) × (Nat → Int32) × Int32 × (Nat → Int32) × Int32 × Int32 × Int32 × Int32 × Int32 × Int32 × Int32 × Int32 × Int32 × Int32 × Int32) :=
  b5 (f_X8_firstDraft mDraft) fun (mDraft_1 : (Nat → Int32)) (mDPeople_2 : Int32) (mHasDry_3 : Int32) (mToldDebts_4 : Int32) (mHighest_5 : Int32) =>
  b6 (f_X8_takes mTape mTaped 0 mBegun mSort mValue 0 mWrongAt) fun (mPos_6 : Int32) (mBegun_7 : Int32) (mSort_8 : Int32) (mValue_9 : Int32) (mFault_10 : Int32) (mWrongAt_11 : Int32) =>
  b12 (f_X8_text_L20 mTape mTaped 400 0 mDraft_1 mDPeople_2 mHasDry_3 mToldDebts_4 mHighest_5 mPos_6 mBegun_7 mSort_8 mValue_9 mFault_10 mWrongAt_11) fun (v1_24 : Int32) (mDraft_25 : (Nat → Int32)) (mDPeople_26 : Int32) (mHasDry_27 : Int32) (mToldDebts_28 : Int32) (mHighest_29 : Int32) (mPos_30 : Int32) (mBegun_31 : Int32) (mSort_32 : Int32) (mValue_33 : Int32) (mFault_34 : Int32) (mWrongAt_35 : Int32) =>
  b2 (
    if mFault_34 = 0 then
      b1 (
        if mDPeople_26 ≤ mHighest_29 then
          some 0
        else
          some 1) fun (t_49 : Int32) =>
      b2 (f_X8_needs mBegun_31 mFault_34 mWrongAt_35 t_49 6) fun (mFault_50 : Int32) (mWrongAt_51 : Int32) =>
      some (mFault_50, mWrongAt_51)
    else
      some (mFault_34, mWrongAt_35)) fun (mFault_47 : Int32) (mWrongAt_48 : Int32) =>
  if mFault_47 ≤ 0 then
    b3 (f_X8_keepDraft mSt mIsKept mDraft_25 mDPeople_26) fun (mSt_52 : (Nat → Int32)) (mIsKept_53 : (Nat → Int32)) (mPeople_54 : Int32) =>
    some (v1_24, mSt_52, mIsKept_53, mPeople_54, mDraft_25, mDPeople_26, mHasDry_27, mToldDebts_28, mHighest_29, 0, mPos_30, mBegun_31, mSort_32, mValue_33, mFault_47, mWrongAt_48)
  else
    some ((-10) - mWrongAt_48, mSt, mIsKept, mPeople, mDraft_25, mDPeople_26, mHasDry_27, mToldDebts_28, mHighest_29, 0, mPos_30, mBegun_31, mSort_32, mValue_33, mFault_47, mWrongAt_48)
def f_X8_torn (mTorn : Int32) : Option (Int32) :=
  some mTorn
def f_X8_train_L34 (mPeople : Int32) (mNow_4 : (Nat → Int32)) : Nat → Int32 → Int32 → Int32 → Option (Int32 × Int32)
  | 0, _, _, _ => none
  | n + 1, v3_6, v4_7, v5_8 =>
    if mPeople ≤ v5_8 then
      some (v3_6, v4_7)
    else
      b1 (f_X8_owesAll mNow_4 mPeople v5_8) fun (r_11 : Int32) =>
      b1 (
        if r_11 ≤ v3_6 then
          some v4_7
        else
          some v5_8) fun (t_12 : Int32) =>
      if r_11 ≤ v3_6 then
        f_X8_train_L34 mPeople mNow_4 n v3_6 t_12 (v5_8 + 1)
      else
        f_X8_train_L34 mPeople mNow_4 n r_11 t_12 (v5_8 + 1)
def f_X8_train (mSt : (Nat → Int32)) (mNow : (Nat → Int32)) (mPeople : Int32) (mPaid : Int32) (p1 : Int32) (p2 : Int32) : Option (Int32 × (Nat → Int32) × Int32) :=
  b1 (f_X8_isFar p1) fun (r_1 : Int32) =>
  if r_1 = 0 then
    some ((-1), mNow, mPaid)
  else
    b1 (f_X8_isPart p2) fun (r_2 : Int32) =>
    if r_2 = 0 then
      some ((-1), mNow, mPaid)
    else
      b1 (f_X8_starts mSt mNow) fun (mNow_3 : (Nat → Int32)) =>
      b2 (f_X8_daysGo mNow_3 mPeople p1) fun (mNow_4 : (Nat → Int32)) (mPaid_5 : Int32) =>
      b2 (f_X8_train_L34 mPeople mNow_4 400 0 (-4) 0) fun (v3_9 : Int32) (v4_10 : Int32) =>
      if v4_10 = (-4) then
        some ((-4), mNow_4, mPaid_5)
      else
        if p2 = 0 then
          some (v4_10, mNow_4, mPaid_5)
        else
          some (v3_9, mNow_4, mPaid_5)
def f_X7_ahead (lPe : Int32) (lDa : Int32) (lDr : Int32) (lNa : (Nat → Int32)) (lMo : (Nat → Int32)) (lWa : (Nat → Int32)) (lDe : (Nat → Int32)) (tPe : Int32) (tDa : Int32) (tDr : Int32) (tNa : (Nat → Int32)) (tMo : (Nat → Int32)) (tWa : (Nat → Int32)) (tDe : (Nat → Int32)) (p1 : Int32) (p2 : Int32) (p3 : Int32) : Option (Int32 × Int32 × Int32 × Int32 × (Nat → Int32) × (Nat → Int32) × (Nat → Int32) × (Nat → Int32)) :=
  b1 (f_X1_has lPe p1) fun (r_1 : Int32) =>
  if r_1 = 0 then
    some ((-1), tPe, tDa, tDr, tNa, tMo, tWa, tDe)
  else
    b1 (f_X7_within p2 0 60) fun (r_2 : Int32) =>
    if r_2 = 0 then
      some ((-1), tPe, tDa, tDr, tNa, tMo, tWa, tDe)
    else
      b1 (f_X7_within p3 0 2) fun (r_3 : Int32) =>
      if r_3 = 0 then
        some ((-1), tPe, tDa, tDr, tNa, tMo, tWa, tDe)
      else
        b7 (f_X1_become lPe lDa lDr lNa lMo lWa lDe) fun (tPe_4 : Int32) (tDa_5 : Int32) (tDr_6 : Int32) (tNa_7 : (Nat → Int32)) (tMo_8 : (Nat → Int32)) (tWa_9 : (Nat → Int32)) (tDe_10 : (Nat → Int32)) =>
        b4 (f_X1_runDays tPe_4 tDa_5 tDr_6 tNa_7 tMo_8 tWa_9 tDe_10 p2) fun (r_11 : Int32) (tDa_12 : Int32) (tMo_13 : (Nat → Int32)) (tDe_14 : (Nat → Int32)) =>
        if p3 = 0 then
          b1 (f_X1_owedBy tPe_4 tDe_14 p1) fun (r_17 : Int32) =>
          some (r_17, tPe_4, tDa_12, tDr_6, tNa_7, tMo_13, tWa_9, tDe_14)
        else
          if p3 = 1 then
            b1 (rd tMo_13 5 p1) fun (a_16 : Int32) =>
            some (a_16, tPe_4, tDa_12, tDr_6, tNa_7, tMo_13, tWa_9, tDe_14)
          else
            b1 (f_X1_heightOf tPe_4 tNa_7 tDe_14 p1) fun (r_15 : Int32) =>
            some (r_15, tPe_4, tDa_12, tDr_6, tNa_7, tMo_13, tWa_9, tDe_14)
def f_X7_swap (wRo : (Nat → Int32)) (p2 : Int32) (p3 : Int32) (p4 : Int32) : Option (Int32 × (Nat → Int32)) :=
  b1 (f_X7_within p3 0 p4) fun (r_1 : Int32) =>
  if r_1 = 0 then
    some ((-1), wRo)
  else
    b1 (f_X7_within p2 0 4) fun (r_2 : Int32) =>
    if r_2 = 0 then
      some ((-1), wRo)
    else
      b1 (rd wRo 5 p2) fun (a_3 : Int32) =>
      b1 (wr wRo 5 p2 p3) fun (wRo_4 : Nat → Int32) =>
      some (a_3, wRo_4)
def f_X7_alter (lPe : Int32) (lNa : (Nat → Int32)) (lMo : (Nat → Int32)) (lWa : (Nat → Int32)) (p1 : Int32) (p2 : Int32) (p3 : Int32) : Option (Int32 × (Nat → Int32) × (Nat → Int32) × (Nat → Int32)) :=
  b1 (f_X1_has lPe p1) fun (r_1 : Int32) =>
  if r_1 = 0 then
    some ((-1), lNa, lMo, lWa)
  else
    if p2 = 0 then
      b2 (f_X7_swap lNa p1 p3 3) fun (r_2 : Int32) (lNa_3 : (Nat → Int32)) =>
      some (r_2, lNa_3, lMo, lWa)
    else
      if p2 = 1 then
        b2 (f_X7_swap lMo p1 p3 999) fun (r_4 : Int32) (lMo_5 : (Nat → Int32)) =>
        some (r_4, lNa, lMo_5, lWa)
      else
        if p2 = 2 then
          b2 (f_X7_swap lWa p1 p3 9) fun (r_6 : Int32) (lWa_7 : (Nat → Int32)) =>
          some (r_6, lNa, lMo, lWa_7)
        else
          some ((-1), lNa, lMo, lWa)
def f_X7_areOdds (p1 : Int32) (p2 : Int32) (p3 : Int32) : Option (Int32) :=
  b1 (f_X7_within p1 0 10) fun (r_1 : Int32) =>
  if r_1 = 0 then
    some 0
  else
    b1 (f_X7_within p2 0 8) fun (r_2 : Int32) =>
    if r_2 = 0 then
      some 0
    else
      b1 (f_X7_within p3 0 1) fun (r_3 : Int32) =>
      if r_3 = 0 then
        some 0
      else
        some 1
def f_X7_possibleWages_L4 (lPe : Int32) (lDa : Int32) (lDr : Int32) (lNa : (Nat → Int32)) (lMo : (Nat → Int32)) (lWa : (Nat → Int32)) (lDe : (Nat → Int32)) (sDy : (Nat → Int32)) (sWo : (Nat → Int32)) (sRi : (Nat → Int32)) (sSz : Int32) (p1 : Int32) : Nat → Int32 → Int32 → Int32 → Int32 → Int32 → (Nat → Int32) → (Nat → Int32) → (Nat → Int32) → (Nat → Int32) → Option (Int32 × Int32 × Int32 × Int32 × (Nat → Int32) × (Nat → Int32) × (Nat → Int32) × (Nat → Int32))
  | 0, _, _, _, _, _, _, _, _, _ => none
  | n + 1, v2_1, v3_2, tPe_3, tDa_4, tDr_5, tNa_6, tMo_7, tWa_8, tDe_9 =>
    if 9 < v3_2 then
      some (v2_1, tPe_3, tDa_4, tDr_5, tNa_6, tMo_7, tWa_8, tDe_9)
    else
      b7 (f_X1_become lPe lDa lDr lNa lMo lWa lDe) fun (tPe_18 : Int32) (tDa_19 : Int32) (tDr_20 : Int32) (tNa_21 : (Nat → Int32)) (tMo_22 : (Nat → Int32)) (tWa_23 : (Nat → Int32)) (tDe_24 : (Nat → Int32)) =>
      b1 (wr tWa_23 5 p1 v3_2) fun (tWa_25 : Nat → Int32) =>
      b4 (f_X5_fits sDy sWo sRi sSz tPe_18 tDa_19 tDr_20 tNa_21 tMo_22 tWa_25 tDe_24) fun (r_26 : Int32) (tDa_27 : Int32) (tMo_28 : (Nat → Int32)) (tDe_29 : (Nat → Int32)) =>
      if r_26 = 0 then
        f_X7_possibleWages_L4 lPe lDa lDr lNa lMo lWa lDe sDy sWo sRi sSz p1 n v2_1 (v3_2 + 1) tPe_18 tDa_27 tDr_20 tNa_21 tMo_28 tWa_25 tDe_29
      else
        f_X7_possibleWages_L4 lPe lDa lDr lNa lMo lWa lDe sDy sWo sRi sSz p1 n (v2_1 ||| ((1 : Int32) <<< (v3_2 &&& 31))) (v3_2 + 1) tPe_18 tDa_27 tDr_20 tNa_21 tMo_28 tWa_25 tDe_29
def f_X7_possibleWages (lPe : Int32) (lDa : Int32) (lDr : Int32) (lNa : (Nat → Int32)) (lMo : (Nat → Int32)) (lWa : (Nat → Int32)) (lDe : (Nat → Int32)) (tPe : Int32) (tDa : Int32) (tDr : Int32) (tNa : (Nat → Int32)) (tMo : (Nat → Int32)) (tWa : (Nat → Int32)) (tDe : (Nat → Int32)) (sDy : (Nat → Int32)) (sWo : (Nat → Int32)) (sRi : (Nat → Int32)) (sSz : Int32) (p1 : Int32) : Option (Int32 × Int32 × Int32 × Int32 × (Nat → Int32) × (Nat → Int32) × (Nat → Int32) × (Nat → Int32)) :=
  b8 (f_X7_possibleWages_L4 lPe lDa lDr lNa lMo lWa lDe sDy sWo sRi sSz p1 400 0 0 tPe tDa tDr tNa tMo tWa tDe) fun (v2_10 : Int32) (tPe_11 : Int32) (tDa_12 : Int32) (tDr_13 : Int32) (tNa_14 : (Nat → Int32)) (tMo_15 : (Nat → Int32)) (tWa_16 : (Nat → Int32)) (tDe_17 : (Nat → Int32)) =>
  some (v2_10, tPe_11, tDa_12, tDr_13, tNa_14, tMo_15, tWa_16, tDe_17)
def f_X7_countUpBehind_L49 (p1 : Int32) (tPe_19 : Int32) (tNa_22 : (Nat → Int32)) (tWa_26 : (Nat → Int32)) (tDr_21 : Int32) : Nat → Int32 → Int32 → (Nat → Int32) → (Nat → Int32) → (Nat → Int32) → Option (Int32 × (Nat → Int32) × (Nat → Int32) × (Nat → Int32))
  | 0, _, _, _, _, _ => none
  | n + 1, v4_27, tDa_28, tMo_29, tDe_30, uUb_31 =>
    if 30 < v4_27 then
      some (tDa_28, tMo_29, tDe_30, uUb_31)
    else
      b1 (f_X1_isRiding tPe_19 tDe_30 p1) fun (r_36 : Int32) =>
      b1 (
        if r_36 = 0 then
          some uUb_31
        else
          b1 (rd uUb_31 31 v4_27) fun (a_38 : Int32) =>
          b1 (wr uUb_31 31 v4_27 (a_38 + 1)) fun (uUb_39 : Nat → Int32) =>
          some uUb_39) fun (uUb_37 : (Nat → Int32)) =>
      b4 (f_X1_runDay tPe_19 tDa_28 tNa_22 tMo_29 tWa_26 tDe_30 tDr_21) fun (r_40 : Int32) (tDa_41 : Int32) (tMo_42 : (Nat → Int32)) (tDe_43 : (Nat → Int32)) =>
      f_X7_countUpBehind_L49 p1 tPe_19 tNa_22 tWa_26 tDr_21 n (v4_27 + 1) tDa_41 tMo_42 tDe_43 uUb_37
def f_X7_countUpBehind_L10 (lPe : Int32) (lDa : Int32) (lDr : Int32) (lNa : (Nat → Int32)) (lMo : (Nat → Int32)) (lWa : (Nat → Int32)) (lDe : (Nat → Int32)) (p1 : Int32) (p2 : Int32) : Nat → Int32 → Int32 → Int32 → Int32 → (Nat → Int32) → (Nat → Int32) → (Nat → Int32) → (Nat → Int32) → (Nat → Int32) → Option (Int32 × Int32 × Int32 × (Nat → Int32) × (Nat → Int32) × (Nat → Int32) × (Nat → Int32) × (Nat → Int32))
  | 0, _, _, _, _, _, _, _, _, _ => none
  | n + 1, v3_2, tPe_3, tDa_4, tDr_5, tNa_6, tMo_7, tWa_8, tDe_9, uUb_10 =>
    if 9 < v3_2 then
      some (tPe_3, tDa_4, tDr_5, tNa_6, tMo_7, tWa_8, tDe_9, uUb_10)
    else
      if ((p2 >>> (v3_2 &&& 31)) &&& 1) = 1 then
        b7 (f_X1_become lPe lDa lDr lNa lMo lWa lDe) fun (tPe_19 : Int32) (tDa_20 : Int32) (tDr_21 : Int32) (tNa_22 : (Nat → Int32)) (tMo_23 : (Nat → Int32)) (tWa_24 : (Nat → Int32)) (tDe_25 : (Nat → Int32)) =>
        b1 (wr tWa_24 5 p1 v3_2) fun (tWa_26 : Nat → Int32) =>
        b4 (f_X7_countUpBehind_L49 p1 tPe_19 tNa_22 tWa_26 tDr_21 400 0 tDa_20 tMo_23 tDe_25 uUb_10) fun (tDa_32 : Int32) (tMo_33 : (Nat → Int32)) (tDe_34 : (Nat → Int32)) (uUb_35 : (Nat → Int32)) =>
        f_X7_countUpBehind_L10 lPe lDa lDr lNa lMo lWa lDe p1 p2 n (v3_2 + 1) tPe_19 tDa_32 tDr_21 tNa_22 tMo_33 tWa_26 tDe_34 uUb_35
      else
        f_X7_countUpBehind_L10 lPe lDa lDr lNa lMo lWa lDe p1 p2 n (v3_2 + 1) tPe_3 tDa_4 tDr_5 tNa_6 tMo_7 tWa_8 tDe_9 uUb_10
def f_X7_countUpBehind (lPe : Int32) (lDa : Int32) (lDr : Int32) (lNa : (Nat → Int32)) (lMo : (Nat → Int32)) (lWa : (Nat → Int32)) (lDe : (Nat → Int32)) (tPe : Int32) (tDa : Int32) (tDr : Int32) (tNa : (Nat → Int32)) (tMo : (Nat → Int32)) (tWa : (Nat → Int32)) (tDe : (Nat → Int32)) (p1 : Int32) (p2 : Int32) : Option (Int32 × Int32 × Int32 × (Nat → Int32) × (Nat → Int32) × (Nat → Int32) × (Nat → Int32) × (Nat → Int32)) :=
  b8 (f_X7_countUpBehind_L10 lPe lDa lDr lNa lMo lWa lDe p1 p2 400 0 tPe tDa tDr tNa tMo tWa tDe (fun _ => 0)) fun (tPe_11 : Int32) (tDa_12 : Int32) (tDr_13 : Int32) (tNa_14 : (Nat → Int32)) (tMo_15 : (Nat → Int32)) (tWa_16 : (Nat → Int32)) (tDe_17 : (Nat → Int32)) (uUb_18 : (Nat → Int32)) =>
  some (tPe_11, tDa_12, tDr_13, tNa_14, tMo_15, tWa_16, tDe_17, uUb_18)
def f_X7_ask_L51 (uUb_18 : (Nat → Int32)) (r_19 : Int32) : Nat → Int32 → Int32 → Int32 → Option (Int32 × Int32)
  | 0, _, _, _ => none
  | n + 1, v5_20, v6_21, v7_22 =>
    if 30 < v7_22 then
      some (v5_20, v6_21)
    else
      b1 (rd uUb_18 31 v7_22) fun (a_25 : Int32) =>
      b1 (rd uUb_18 31 v7_22) fun (a_26 : Int32) =>
      b1 (some (if a_25 < (r_19 - a_26) then (r_19 - a_26) else a_25)) fun (z_27 : Int32) =>
      if v5_20 ≤ z_27 then
        f_X7_ask_L51 uUb_18 r_19 n v5_20 v6_21 (v7_22 + 1)
      else
        f_X7_ask_L51 uUb_18 r_19 n z_27 v7_22 (v7_22 + 1)
def f_X7_ask (lPe : Int32) (lDa : Int32) (lDr : Int32) (lNa : (Nat → Int32)) (lMo : (Nat → Int32)) (lWa : (Nat → Int32)) (lDe : (Nat → Int32)) (tPe : Int32) (tDa : Int32) (tDr : Int32) (tNa : (Nat → Int32)) (tMo : (Nat → Int32)) (tWa : (Nat → Int32)) (tDe : (Nat → Int32)) (sDy : (Nat → Int32)) (sWo : (Nat → Int32)) (sRi : (Nat → Int32)) (sSz : Int32) (uUb : (Nat → Int32)) (p1 : Int32) (p2 : Int32) : Option (Int32 × Int32 × Int32 × Int32 × (Nat → Int32) × (Nat → Int32) × (Nat → Int32) × (Nat → Int32) × (Nat → Int32)) :=
  b1 (f_X1_has lPe p1) fun (r_1 : Int32) =>
  if r_1 = 0 then
    some ((-1), tPe, tDa, tDr, tNa, tMo, tWa, tDe, uUb)
  else
    b1 (f_X7_within p2 0 1) fun (r_2 : Int32) =>
    if r_2 = 0 then
      some ((-1), tPe, tDa, tDr, tNa, tMo, tWa, tDe, uUb)
    else
      b8 (f_X7_possibleWages lPe lDa lDr lNa lMo lWa lDe tPe tDa tDr tNa tMo tWa tDe sDy sWo sRi sSz p1) fun (r_3 : Int32) (tPe_4 : Int32) (tDa_5 : Int32) (tDr_6 : Int32) (tNa_7 : (Nat → Int32)) (tMo_8 : (Nat → Int32)) (tWa_9 : (Nat → Int32)) (tDe_10 : (Nat → Int32)) =>
      b8 (f_X7_countUpBehind lPe lDa lDr lNa lMo lWa lDe tPe_4 tDa_5 tDr_6 tNa_7 tMo_8 tWa_9 tDe_10 p1 r_3) fun (tPe_11 : Int32) (tDa_12 : Int32) (tDr_13 : Int32) (tNa_14 : (Nat → Int32)) (tMo_15 : (Nat → Int32)) (tWa_16 : (Nat → Int32)) (tDe_17 : (Nat → Int32)) (uUb_18 : (Nat → Int32)) =>
      b1 (f_J6_bitCount_0f7a4 r_3) fun (r_19 : Int32) =>
      b2 (f_X7_ask_L51 uUb_18 r_19 400 r_19 (-4) 0) fun (v5_23 : Int32) (v6_24 : Int32) =>
      if v6_24 = (-4) then
        some ((-4), tPe_11, tDa_12, tDr_13, tNa_14, tMo_15, tWa_16, tDe_17, uUb_18)
      else
        if p2 = 0 then
          some (v6_24, tPe_11, tDa_12, tDr_13, tNa_14, tMo_15, tWa_16, tDe_17, uUb_18)
        else
          some (v5_23, tPe_11, tDa_12, tDr_13, tNa_14, tMo_15, tWa_16, tDe_17, uUb_18)
def f_X7_back (lPe : Int32) (lDa : Int32) (lDr : Int32) (lNa : (Nat → Int32)) (lMo : (Nat → Int32)) (lWa : (Nat → Int32)) (lDe : (Nat → Int32)) (sDy : (Nat → Int32)) (sWo : (Nat → Int32)) (sRi : (Nat → Int32)) (sSz : Int32) (i0Ke : Int32) (i1Ke : Int32) (j0Pe : Int32) (j0Da : Int32) (j0Dr : Int32) (j0Na : (Nat → Int32)) (j0Mo : (Nat → Int32)) (j0Wa : (Nat → Int32)) (j0De : (Nat → Int32)) (j1Pe : Int32) (j1Da : Int32) (j1Dr : Int32) (j1Na : (Nat → Int32)) (j1Mo : (Nat → Int32)) (j1Wa : (Nat → Int32)) (j1De : (Nat → Int32)) (k0Dy : (Nat → Int32)) (k0Wo : (Nat → Int32)) (k0Ri : (Nat → Int32)) (k0Sz : Int32) (k1Dy : (Nat → Int32)) (k1Wo : (Nat → Int32)) (k1Ri : (Nat → Int32)) (k1Sz : Int32) (p1 : Int32) : Option (Int32 × Int32 × Int32 × Int32 × (Nat → Int32) × (Nat → Int32) × (Nat → Int32) × (Nat → Int32) × (Nat → Int32) × (Nat → Int32) × (Nat → Int32) × Int32) :=
  b1 (f_X7_within p1 0 1) fun (r_1 : Int32) =>
  if r_1 = 0 then
    some ((-1), lPe, lDa, lDr, lNa, lMo, lWa, lDe, sDy, sWo, sRi, sSz)
  else
    if p1 = 0 then
      if i0Ke = 0 then
        some ((-2), lPe, lDa, lDr, lNa, lMo, lWa, lDe, sDy, sWo, sRi, sSz)
      else
        b7 (f_X1_become j0Pe j0Da j0Dr j0Na j0Mo j0Wa j0De) fun (lPe_2 : Int32) (lDa_3 : Int32) (lDr_4 : Int32) (lNa_5 : (Nat → Int32)) (lMo_6 : (Nat → Int32)) (lWa_7 : (Nat → Int32)) (lDe_8 : (Nat → Int32)) =>
        b4 (f_X5_become k0Dy k0Wo k0Ri k0Sz) fun (sDy_9 : (Nat → Int32)) (sWo_10 : (Nat → Int32)) (sRi_11 : (Nat → Int32)) (sSz_12 : Int32) =>
        some (lDa_3, lPe_2, lDa_3, lDr_4, lNa_5, lMo_6, lWa_7, lDe_8, sDy_9, sWo_10, sRi_11, sSz_12)
    else
      if p1 = 1 then
        if i1Ke = 0 then
          some ((-2), lPe, lDa, lDr, lNa, lMo, lWa, lDe, sDy, sWo, sRi, sSz)
        else
          b7 (f_X1_become j1Pe j1Da j1Dr j1Na j1Mo j1Wa j1De) fun (lPe_13 : Int32) (lDa_14 : Int32) (lDr_15 : Int32) (lNa_16 : (Nat → Int32)) (lMo_17 : (Nat → Int32)) (lWa_18 : (Nat → Int32)) (lDe_19 : (Nat → Int32)) =>
          b4 (f_X5_become k1Dy k1Wo k1Ri k1Sz) fun (sDy_20 : (Nat → Int32)) (sWo_21 : (Nat → Int32)) (sRi_22 : (Nat → Int32)) (sSz_23 : Int32) =>
          some (lDa_14, lPe_13, lDa_14, lDr_15, lNa_16, lMo_17, lWa_18, lDe_19, sDy_20, sWo_21, sRi_22, sSz_23)
      else
        none
def f_X7_bond (lPe : Int32) (lDe : (Nat → Int32)) (p1 : Int32) (p2 : Int32) (p3 : Int32) : Option (Int32 × (Nat → Int32)) :=
  b1 (f_X1_hasPair lPe p1 p2) fun (r_1 : Int32) =>
  if r_1 = 0 then
    some ((-1), lDe)
  else
    b1 (f_X7_within p3 0 99) fun (r_2 : Int32) =>
    if r_2 = 0 then
      some ((-1), lDe)
    else
      b1 (f_X1_debt lDe p1 p2) fun (r_3 : Int32) =>
      b1 (f_X1_setDebt lDe p1 p2 p3) fun (lDe_4 : (Nat → Int32)) =>
      some (r_3, lDe_4)
def f_X7_clear_L10 (lPe : Int32) : Nat → Int32 → (Nat → Int32) → (Nat → Int32) → Int32 → Option ((Nat → Int32) × (Nat → Int32) × Int32)
  | 0, _, _, _, _ => none
  | n + 1, v2_2, lDe_3, fRo_4, fSz_5 =>
    if 25 ≤ v2_2 then
      some (lDe_3, fRo_4, fSz_5)
    else
      b3 (f_X4_find fRo_4 fSz_5 lPe lDe_3) fun (r_9 : Int32) (fRo_10 : (Nat → Int32)) (fSz_11 : Int32) =>
      if r_9 = 0 then
        some (lDe_3, fRo_10, fSz_11)
      else
        b1 (f_X4_leastDebt fRo_10 fSz_11 lDe_3) fun (r_12 : Int32) =>
        b1 (f_X4_lessen fRo_10 fSz_11 lDe_3 r_12) fun (lDe_13 : (Nat → Int32)) =>
        f_X7_clear_L10 lPe n (v2_2 + 1) lDe_13 fRo_10 fSz_11
def f_X7_clear (lPe : Int32) (lDe : (Nat → Int32)) (fRo : (Nat → Int32)) (fSz : Int32) : Option (Int32 × (Nat → Int32) × (Nat → Int32) × Int32) :=
  b1 (f_X1_owedInAll lPe lDe) fun (r_1 : Int32) =>
  b3 (f_X7_clear_L10 lPe 400 0 lDe fRo fSz) fun (lDe_6 : (Nat → Int32)) (fRo_7 : (Nat → Int32)) (fSz_8 : Int32) =>
  b1 (f_X1_owedInAll lPe lDe_6) fun (r_14 : Int32) =>
  some (r_1 - r_14, lDe_6, fRo_7, fSz_8)
def f_X7_imagesKept_L4 (i0Ke : Int32) (i1Ke : Int32) : Nat → Int32 → Int32 → Option (Int32)
  | 0, _, _ => none
  | n + 1, v1_1, v2_2 =>
    if 2 ≤ v2_2 then
      some v1_1
    else
      if v2_2 = 0 then
        if i0Ke = 0 then
          f_X7_imagesKept_L4 i0Ke i1Ke n v1_1 (v2_2 + 1)
        else
          f_X7_imagesKept_L4 i0Ke i1Ke n (v1_1 + 1) (v2_2 + 1)
      else
        if v2_2 = 1 then
          if i1Ke = 0 then
            f_X7_imagesKept_L4 i0Ke i1Ke n v1_1 (v2_2 + 1)
          else
            f_X7_imagesKept_L4 i0Ke i1Ke n (v1_1 + 1) (v2_2 + 1)
        else
          none
def f_X7_imagesKept (i0Ke : Int32) (i1Ke : Int32) : Option (Int32) :=
  b1 (f_X7_imagesKept_L4 i0Ke i1Ke 400 0 0) fun (v1_3 : Int32) =>
  some v1_3
def f_X7_count (lDe : (Nat → Int32)) (sSz : Int32) (i0Ke : Int32) (i1Ke : Int32) (rLe : Int32) (y0Th : Int32) (y0Sz : Int32) (p1 : Int32) : Option (Int32) :=
  if p1 = 0 then
    some sSz
  else
    if p1 = 1 then
      b1 (f_X7_imagesKept i0Ke i1Ke) fun (r_1 : Int32) =>
      some r_1
    else
      if p1 = 2 then
        some rLe
      else
        if p1 = 3 then
          if y0Th = 0 then
            some (-4)
          else
            some y0Sz
        else
          if p1 = 4 then
            b1 (f_X1_debtsInAll lDe) fun (r_2 : Int32) =>
            some r_2
          else
            some (-1)
def f_X7_days (lPe : Int32) (lDa : Int32) (lDr : Int32) (lNa : (Nat → Int32)) (lMo : (Nat → Int32)) (lWa : (Nat → Int32)) (lDe : (Nat → Int32)) (p1 : Int32) : Option (Int32 × Int32 × (Nat → Int32) × (Nat → Int32)) :=
  b1 (f_X7_within p1 0 30) fun (r_1 : Int32) =>
  if r_1 = 0 then
    some ((-1), lDa, lMo, lDe)
  else
    if (lDa + p1) ≤ 999 then
      b4 (f_X1_runDays lPe lDa lDr lNa lMo lWa lDe p1) fun (r_2 : Int32) (lDa_3 : Int32) (lMo_4 : (Nat → Int32)) (lDe_5 : (Nat → Int32)) =>
      some (r_2, lDa_3, lMo_4, lDe_5)
    else
      some ((-3), lDa, lMo, lDe)
def f_X7_daysByDryness (lPe : Int32) (lDa : Int32) (lDr : Int32) (lNa : (Nat → Int32)) (lMo : (Nat → Int32)) (lWa : (Nat → Int32)) (lDe : (Nat → Int32)) (p1 : Int32) (p2 : Int32) : Option (Int32 × Int32 × Int32 × Int32 × (Nat → Int32) × (Nat → Int32) × (Nat → Int32) × (Nat → Int32)) :=
  b7 (f_X1_become lPe lDa lDr lNa lMo lWa lDe) fun (tPe_1 : Int32) (tDa_2 : Int32) (tDr_3 : Int32) (tNa_4 : (Nat → Int32)) (tMo_5 : (Nat → Int32)) (tWa_6 : (Nat → Int32)) (tDe_7 : (Nat → Int32)) =>
  b4 (f_X1_daysTillRiding tPe_1 tDa_2 p2 tNa_4 tMo_5 tWa_6 tDe_7 p1) fun (r_8 : Int32) (tDa_9 : Int32) (tMo_10 : (Nat → Int32)) (tDe_11 : (Nat → Int32)) =>
  some (r_8, tPe_1, tDa_9, p2, tNa_4, tMo_10, tWa_6, tDe_11)
def f_X7_drift_L55 (lPe : Int32) (p2 : Int32) (tPe_3 : Int32) (tNa_6 : (Nat → Int32)) (tWa_8 : (Nat → Int32)) (tDr_5 : Int32) : Nat → Int32 → Int32 → Int32 → (Nat → Int32) → (Nat → Int32) → Option (Int32 × (Nat → Int32) × (Nat → Int32))
  | 0, _, _, _, _, _ => none
  | n + 1, v5_10, v6_11, tDa_12, tMo_13, tDe_14 =>
    if p2 ≤ v6_11 then
      some (tDa_12, tMo_13, tDe_14)
    else
      b1 (some (((((v5_10 * 1103515245) + 12345).toUInt32 >>> ((16 : Int32).toUInt32 &&& Int32.toUInt32 31)).toInt32) &&& 32767)) fun (z_18 : Int32) =>
      b1 (nz lPe) fun _ =>
      b1 (nz lPe) fun _ =>
      b3 (f_X1_lendTo tPe_3 tMo_13 tDe_14 (z_18 - z_18 / lPe * lPe) ((z_18 / 8) - (z_18 / 8) / lPe * lPe) (1 + ((z_18 / 64) - (z_18 / 64) / 9 * 9))) fun (r_19 : Int32) (tMo_20 : (Nat → Int32)) (tDe_21 : (Nat → Int32)) =>
      b4 (f_X1_runDay tPe_3 tDa_12 tNa_6 tMo_20 tWa_8 tDe_21 tDr_5) fun (r_22 : Int32) (tDa_23 : Int32) (tMo_24 : (Nat → Int32)) (tDe_25 : (Nat → Int32)) =>
      f_X7_drift_L55 lPe p2 tPe_3 tNa_6 tWa_8 tDr_5 n ((v5_10 * 1103515245) + 12345) (v6_11 + 1) tDa_23 tMo_24 tDe_25
def f_X7_drift (lPe : Int32) (lDa : Int32) (lDr : Int32) (lNa : (Nat → Int32)) (lMo : (Nat → Int32)) (lWa : (Nat → Int32)) (lDe : (Nat → Int32)) (tPe : Int32) (tDa : Int32) (tDr : Int32) (tNa : (Nat → Int32)) (tMo : (Nat → Int32)) (tWa : (Nat → Int32)) (tDe : (Nat → Int32)) (p1 : Int32) (p2 : Int32) (p3 : Int32) : Option (Int32 × Int32 × Int32 × Int32 × (Nat → Int32) × (Nat → Int32) × (Nat → Int32) × (Nat → Int32)) :=
  b1 (f_X7_within p2 1 60) fun (r_1 : Int32) =>
  if r_1 = 0 then
    some ((-1), tPe, tDa, tDr, tNa, tMo, tWa, tDe)
  else
    b1 (f_X7_within p3 0 1) fun (r_2 : Int32) =>
    if r_2 = 0 then
      some ((-1), tPe, tDa, tDr, tNa, tMo, tWa, tDe)
    else
      if lPe = 0 then
        some ((-2), tPe, tDa, tDr, tNa, tMo, tWa, tDe)
      else
        b7 (f_X1_become lPe lDa lDr lNa lMo lWa lDe) fun (tPe_3 : Int32) (tDa_4 : Int32) (tDr_5 : Int32) (tNa_6 : (Nat → Int32)) (tMo_7 : (Nat → Int32)) (tWa_8 : (Nat → Int32)) (tDe_9 : (Nat → Int32)) =>
        b3 (f_X7_drift_L55 lPe p2 tPe_3 tNa_6 tWa_8 tDr_5 400 p1 0 tDa_4 tMo_7 tDe_9) fun (tDa_15 : Int32) (tMo_16 : (Nat → Int32)) (tDe_17 : (Nat → Int32)) =>
        if p3 = 0 then
          b1 (f_X1_owedInAll tPe_3 tDe_17) fun (r_27 : Int32) =>
          some (r_27, tPe_3, tDa_15, tDr_5, tNa_6, tMo_16, tWa_8, tDe_17)
        else
          b1 (f_X1_riders tPe_3 tDe_17) fun (r_26 : Int32) =>
          some (r_26, tPe_3, tDa_15, tDr_5, tNa_6, tMo_16, tWa_8, tDe_17)
def f_X7_dry (lDr : Int32) (p1 : Int32) : Option (Int32 × Int32) :=
  b1 (f_X7_within p1 0 9) fun (r_1 : Int32) =>
  if r_1 = 0 then
    some ((-1), lDr)
  else
    some (lDr, p1)
def f_X7_earns (lPe : Int32) (lDa : Int32) (lDr : Int32) (lNa : (Nat → Int32)) (lMo : (Nat → Int32)) (lWa : (Nat → Int32)) (lDe : (Nat → Int32)) (tPe : Int32) (tDa : Int32) (tDr : Int32) (tNa : (Nat → Int32)) (tMo : (Nat → Int32)) (tWa : (Nat → Int32)) (tDe : (Nat → Int32)) (sDy : (Nat → Int32)) (sWo : (Nat → Int32)) (sRi : (Nat → Int32)) (sSz : Int32) (p1 : Int32) : Option (Int32 × Int32 × Int32 × Int32 × (Nat → Int32) × (Nat → Int32) × (Nat → Int32) × (Nat → Int32)) :=
  b1 (f_X1_has lPe p1) fun (r_1 : Int32) =>
  if r_1 = 0 then
    some ((-1), tPe, tDa, tDr, tNa, tMo, tWa, tDe)
  else
    b8 (f_X7_possibleWages lPe lDa lDr lNa lMo lWa lDe tPe tDa tDr tNa tMo tWa tDe sDy sWo sRi sSz p1) fun (r_2 : Int32) (tPe_3 : Int32) (tDa_4 : Int32) (tDr_5 : Int32) (tNa_6 : (Nat → Int32)) (tMo_7 : (Nat → Int32)) (tWa_8 : (Nat → Int32)) (tDe_9 : (Nat → Int32)) =>
    some (r_2, tPe_3, tDa_4, tDr_5, tNa_6, tMo_7, tWa_8, tDe_9)
def f_X7_end (rLe : Int32) (p1 : Int32) : Option (Int32 × Int32) :=
  b1 (f_X7_within p1 0 rLe) fun (r_1 : Int32) =>
  if r_1 = 0 then
    some ((-1), rLe)
  else
    some (rLe, p1)
def f_X7_fault (xTf : Int32) : Option (Int32) :=
  some xTf
def f_X7_feed (rBy : (Nat → Int32)) (rLe : Int32) (p1 : Int32) : Option (Int32 × (Nat → Int32) × Int32) :=
  b1 (f_X7_within p1 0 127) fun (r_1 : Int32) =>
  if r_1 = 0 then
    some ((-1), rBy, rLe)
  else
    if rLe < 160 then
      b1 (wr rBy 160 rLe p1) fun (rBy_2 : Nat → Int32) =>
      some (rLe + 1, rBy_2, rLe + 1)
    else
      some ((-3), rBy, rLe)
def f_X7_forget (sSz : Int32) (p1 : Int32) : Option (Int32 × Int32) :=
  b1 (f_X7_within p1 0 sSz) fun (r_1 : Int32) =>
  if r_1 = 0 then
    some ((-1), sSz)
  else
    some (sSz, p1)
def f_X7_ridersIfForgiven (lPe : Int32) (lDa : Int32) (lDr : Int32) (lNa : (Nat → Int32)) (lMo : (Nat → Int32)) (lWa : (Nat → Int32)) (lDe : (Nat → Int32)) (p1 : Int32) (p2 : Int32) : Option (Int32 × Int32 × Int32 × Int32 × (Nat → Int32) × (Nat → Int32) × (Nat → Int32) × (Nat → Int32)) :=
  b7 (f_X1_become lPe lDa lDr lNa lMo lWa lDe) fun (tPe_1 : Int32) (tDa_2 : Int32) (tDr_3 : Int32) (tNa_4 : (Nat → Int32)) (tMo_5 : (Nat → Int32)) (tWa_6 : (Nat → Int32)) (tDe_7 : (Nat → Int32)) =>
  b1 (f_X1_setDebt tDe_7 p1 p2 0) fun (tDe_8 : (Nat → Int32)) =>
  b4 (f_X1_ridersInTheEnd tPe_1 tDa_2 tDr_3 tNa_4 tMo_5 tWa_6 tDe_8) fun (r_9 : Int32) (tDa_10 : Int32) (tMo_11 : (Nat → Int32)) (tDe_12 : (Nat → Int32)) =>
  some (r_9, tPe_1, tDa_10, tDr_3, tNa_4, tMo_11, tWa_6, tDe_12)
def f_X7_forgive_L51 (lPe : Int32) (lDa : Int32) (lDr : Int32) (lNa : (Nat → Int32)) (lMo : (Nat → Int32)) (lWa : (Nat → Int32)) (lDe : (Nat → Int32)) (v4_15 : Int32) : Nat → Int32 → Int32 → Int32 → Int32 → Int32 → Int32 → (Nat → Int32) → (Nat → Int32) → (Nat → Int32) → (Nat → Int32) → Option (Int32 × Int32 × Int32 × Int32 × Int32 × (Nat → Int32) × (Nat → Int32) × (Nat → Int32) × (Nat → Int32))
  | 0, _, _, _, _, _, _, _, _, _, _ => none
  | n + 1, v2_32, v3_33, v5_34, tPe_35, tDa_36, tDr_37, tNa_38, tMo_39, tWa_40, tDe_41 =>
    if lPe ≤ v5_34 then
      some (v2_32, v3_33, tPe_35, tDa_36, tDr_37, tNa_38, tMo_39, tWa_40, tDe_41)
    else
      b1 (f_X1_debt lDe v4_15 v5_34) fun (r_51 : Int32) =>
      b8 (
        if r_51 ≤ 0 then
          some (0, tPe_35, tDa_36, tDr_37, tNa_38, tMo_39, tWa_40, tDe_41)
        else
          b8 (f_X7_ridersIfForgiven lPe lDa lDr lNa lMo lWa lDe v4_15 v5_34) fun (r_60 : Int32) (tPe_61 : Int32) (tDa_62 : Int32) (tDr_63 : Int32) (tNa_64 : (Nat → Int32)) (tMo_65 : (Nat → Int32)) (tWa_66 : (Nat → Int32)) (tDe_67 : (Nat → Int32)) =>
          some (r_60, tPe_61, tDa_62, tDr_63, tNa_64, tMo_65, tWa_66, tDe_67)) fun (t_52 : Int32) (tPe_53 : Int32) (tDa_54 : Int32) (tDr_55 : Int32) (tNa_56 : (Nat → Int32)) (tMo_57 : (Nat → Int32)) (tWa_58 : (Nat → Int32)) (tDe_59 : (Nat → Int32)) =>
      if t_52 ≤ v3_33 then
        f_X7_forgive_L51 lPe lDa lDr lNa lMo lWa lDe v4_15 n v2_32 v3_33 (v5_34 + 1) tPe_53 tDa_54 tDr_55 tNa_56 tMo_57 tWa_58 tDe_59
      else
        f_X7_forgive_L51 lPe lDa lDr lNa lMo lWa lDe v4_15 n ((10 * v4_15) + v5_34) t_52 (v5_34 + 1) tPe_53 tDa_54 tDr_55 tNa_56 tMo_57 tWa_58 tDe_59
def f_X7_forgive_L36 (lPe : Int32) (lDa : Int32) (lDr : Int32) (lNa : (Nat → Int32)) (lMo : (Nat → Int32)) (lWa : (Nat → Int32)) (lDe : (Nat → Int32)) : Nat → Int32 → Int32 → Int32 → Int32 → Int32 → Int32 → (Nat → Int32) → (Nat → Int32) → (Nat → Int32) → (Nat → Int32) → Option (Int32 × Int32 × Int32 × Int32 × Int32 × (Nat → Int32) × (Nat → Int32) × (Nat → Int32) × (Nat → Int32))
  | 0, _, _, _, _, _, _, _, _, _, _ => none
  | n + 1, v2_13, v3_14, v4_15, tPe_16, tDa_17, tDr_18, tNa_19, tMo_20, tWa_21, tDe_22 =>
    if lPe ≤ v4_15 then
      some (v2_13, v3_14, tPe_16, tDa_17, tDr_18, tNa_19, tMo_20, tWa_21, tDe_22)
    else
      b9 (f_X7_forgive_L51 lPe lDa lDr lNa lMo lWa lDe v4_15 400 v2_13 v3_14 0 tPe_16 tDa_17 tDr_18 tNa_19 tMo_20 tWa_21 tDe_22) fun (v2_42 : Int32) (v3_43 : Int32) (tPe_44 : Int32) (tDa_45 : Int32) (tDr_46 : Int32) (tNa_47 : (Nat → Int32)) (tMo_48 : (Nat → Int32)) (tWa_49 : (Nat → Int32)) (tDe_50 : (Nat → Int32)) =>
      f_X7_forgive_L36 lPe lDa lDr lNa lMo lWa lDe n v2_42 v3_43 (v4_15 + 1) tPe_44 tDa_45 tDr_46 tNa_47 tMo_48 tWa_49 tDe_50
def f_X7_forgive (lPe : Int32) (lDa : Int32) (lDr : Int32) (lNa : (Nat → Int32)) (lMo : (Nat → Int32)) (lWa : (Nat → Int32)) (lDe : (Nat → Int32)) (tPe : Int32) (tDa : Int32) (tDr : Int32) (tNa : (Nat → Int32)) (tMo : (Nat → Int32)) (tWa : (Nat → Int32)) (tDe : (Nat → Int32)) (p1 : Int32) : Option (Int32 × Int32 × Int32 × Int32 × (Nat → Int32) × (Nat → Int32) × (Nat → Int32) × (Nat → Int32)) :=
  b1 (f_X7_within p1 0 1) fun (r_1 : Int32) =>
  if r_1 = 0 then
    some ((-1), tPe, tDa, tDr, tNa, tMo, tWa, tDe)
  else
    b7 (f_X1_become lPe lDa lDr lNa lMo lWa lDe) fun (tPe_2 : Int32) (tDa_3 : Int32) (tDr_4 : Int32) (tNa_5 : (Nat → Int32)) (tMo_6 : (Nat → Int32)) (tWa_7 : (Nat → Int32)) (tDe_8 : (Nat → Int32)) =>
    b4 (f_X1_ridersInTheEnd tPe_2 tDa_3 tDr_4 tNa_5 tMo_6 tWa_7 tDe_8) fun (r_9 : Int32) (tDa_10 : Int32) (tMo_11 : (Nat → Int32)) (tDe_12 : (Nat → Int32)) =>
    b9 (f_X7_forgive_L36 lPe lDa lDr lNa lMo lWa lDe 400 (-4) r_9 0 tPe_2 tDa_10 tDr_4 tNa_5 tMo_11 tWa_7 tDe_12) fun (v2_23 : Int32) (v3_24 : Int32) (tPe_25 : Int32) (tDa_26 : Int32) (tDr_27 : Int32) (tNa_28 : (Nat → Int32)) (tMo_29 : (Nat → Int32)) (tWa_30 : (Nat → Int32)) (tDe_31 : (Nat → Int32)) =>
    if v2_23 = (-4) then
      some ((-4), tPe_25, tDa_26, tDr_27, tNa_28, tMo_29, tWa_30, tDe_31)
    else
      if p1 = 0 then
        some (v2_23, tPe_25, tDa_26, tDr_27, tNa_28, tMo_29, tWa_30, tDe_31)
      else
        some (v3_24, tPe_25, tDa_26, tDr_27, tNa_28, tMo_29, tWa_30, tDe_31)
def f_X7_give_L47 (lPe : Int32) (lDa : Int32) (lDr : Int32) (lNa : (Nat → Int32)) (lMo : (Nat → Int32)) (lWa : (Nat → Int32)) (lDe : (Nat → Int32)) (p1 : Int32) : Nat → Int32 → Int32 → Int32 → Int32 → Int32 → Int32 → (Nat → Int32) → (Nat → Int32) → (Nat → Int32) → (Nat → Int32) → Option (Int32 × Int32 × Int32 × Int32 × Int32 × (Nat → Int32) × (Nat → Int32) × (Nat → Int32) × (Nat → Int32))
  | 0, _, _, _, _, _, _, _, _, _, _ => none
  | n + 1, v3_14, v4_15, v5_16, tPe_17, tDa_18, tDr_19, tNa_20, tMo_21, tWa_22, tDe_23 =>
    if lPe ≤ v5_16 then
      some (v3_14, v4_15, tPe_17, tDa_18, tDr_19, tNa_20, tMo_21, tWa_22, tDe_23)
    else
      b7 (f_X1_become lPe lDa lDr lNa lMo lWa lDe) fun (tPe_33 : Int32) (tDa_34 : Int32) (tDr_35 : Int32) (tNa_36 : (Nat → Int32)) (tMo_37 : (Nat → Int32)) (tWa_38 : (Nat → Int32)) (tDe_39 : (Nat → Int32)) =>
      b1 (f_X1_gain tMo_37 v5_16 p1) fun (tMo_40 : (Nat → Int32)) =>
      b4 (f_X1_ridersInTheEnd tPe_33 tDa_34 tDr_35 tNa_36 tMo_40 tWa_38 tDe_39) fun (r_41 : Int32) (tDa_42 : Int32) (tMo_43 : (Nat → Int32)) (tDe_44 : (Nat → Int32)) =>
      if r_41 ≤ v4_15 then
        f_X7_give_L47 lPe lDa lDr lNa lMo lWa lDe p1 n v3_14 v4_15 (v5_16 + 1) tPe_33 tDa_42 tDr_35 tNa_36 tMo_43 tWa_38 tDe_44
      else
        f_X7_give_L47 lPe lDa lDr lNa lMo lWa lDe p1 n v5_16 r_41 (v5_16 + 1) tPe_33 tDa_42 tDr_35 tNa_36 tMo_43 tWa_38 tDe_44
def f_X7_give (lPe : Int32) (lDa : Int32) (lDr : Int32) (lNa : (Nat → Int32)) (lMo : (Nat → Int32)) (lWa : (Nat → Int32)) (lDe : (Nat → Int32)) (tPe : Int32) (tDa : Int32) (tDr : Int32) (tNa : (Nat → Int32)) (tMo : (Nat → Int32)) (tWa : (Nat → Int32)) (tDe : (Nat → Int32)) (p1 : Int32) (p2 : Int32) : Option (Int32 × Int32 × Int32 × Int32 × (Nat → Int32) × (Nat → Int32) × (Nat → Int32) × (Nat → Int32)) :=
  b1 (f_X7_within p1 1 99) fun (r_1 : Int32) =>
  if r_1 = 0 then
    some ((-1), tPe, tDa, tDr, tNa, tMo, tWa, tDe)
  else
    b1 (f_X7_within p2 0 1) fun (r_2 : Int32) =>
    if r_2 = 0 then
      some ((-1), tPe, tDa, tDr, tNa, tMo, tWa, tDe)
    else
      b7 (f_X1_become lPe lDa lDr lNa lMo lWa lDe) fun (tPe_3 : Int32) (tDa_4 : Int32) (tDr_5 : Int32) (tNa_6 : (Nat → Int32)) (tMo_7 : (Nat → Int32)) (tWa_8 : (Nat → Int32)) (tDe_9 : (Nat → Int32)) =>
      b4 (f_X1_ridersInTheEnd tPe_3 tDa_4 tDr_5 tNa_6 tMo_7 tWa_8 tDe_9) fun (r_10 : Int32) (tDa_11 : Int32) (tMo_12 : (Nat → Int32)) (tDe_13 : (Nat → Int32)) =>
      b9 (f_X7_give_L47 lPe lDa lDr lNa lMo lWa lDe p1 400 (-4) r_10 0 tPe_3 tDa_11 tDr_5 tNa_6 tMo_12 tWa_8 tDe_13) fun (v3_24 : Int32) (v4_25 : Int32) (tPe_26 : Int32) (tDa_27 : Int32) (tDr_28 : Int32) (tNa_29 : (Nat → Int32)) (tMo_30 : (Nat → Int32)) (tWa_31 : (Nat → Int32)) (tDe_32 : (Nat → Int32)) =>
      if v3_24 = (-4) then
        some ((-4), tPe_26, tDa_27, tDr_28, tNa_29, tMo_30, tWa_31, tDe_32)
      else
        if p2 = 0 then
          some (v3_24, tPe_26, tDa_27, tDr_28, tNa_29, tMo_30, tWa_31, tDe_32)
        else
          some (v4_25, tPe_26, tDa_27, tDr_28, tNa_29, tMo_30, tWa_31, tDe_32)
def f_X7_isSheet (p1 : Int32) : Option (Int32) :=
  b1 (f_X7_within p1 0 3) fun (r_1 : Int32) =>
  b1 (bz r_1) fun (z_2 : Int32) =>
  some z_2
def f_X7_keep (lPe : Int32) (lDa : Int32) (lDr : Int32) (lNa : (Nat → Int32)) (lMo : (Nat → Int32)) (lWa : (Nat → Int32)) (lDe : (Nat → Int32)) (sDy : (Nat → Int32)) (sWo : (Nat → Int32)) (sRi : (Nat → Int32)) (sSz : Int32) (i0Ke : Int32) (i1Ke : Int32) (j0Pe : Int32) (j0Da : Int32) (j0Dr : Int32) (j0Na : (Nat → Int32)) (j0Mo : (Nat → Int32)) (j0Wa : (Nat → Int32)) (j0De : (Nat → Int32)) (j1Pe : Int32) (j1Da : Int32) (j1Dr : Int32) (j1Na : (Nat → Int32)) (j1Mo : (Nat → Int32)) (j1Wa : (Nat → Int32)) (j1De : (Nat → Int32)) (k0Dy : (Nat → Int32)) (k0Wo : (Nat → Int32)) (k0Ri : (Nat → Int32)) (k0Sz : Int32) (k1Dy : (Nat → Int32)) (k1Wo : (Nat → Int32)) (k1Ri : (Nat → Int32)) (k1Sz : Int32) (p1 : Int32) : Option (Int32 × Int32 × Int32 × Int32 × Int32 × Int32 × (Nat → Int32) × (Nat → Int32) × (Nat → Int32) × (Nat → Int32) × Int32 × Int32 × Int32 × (Nat → Int32) × (Nat → Int32) × (Nat → Int32) × (Nat → Int32) × (Nat → Int32) × (Nat → Int32) × (Nat → Int32) × Int32 × (Nat → Int32) × (Nat → Int32) × (Nat → Int32) × Int32) :=
  b1 (f_X7_within p1 0 1) fun (r_1 : Int32) =>
  if r_1 = 0 then
    some ((-1), i0Ke, i1Ke, j0Pe, j0Da, j0Dr, j0Na, j0Mo, j0Wa, j0De, j1Pe, j1Da, j1Dr, j1Na, j1Mo, j1Wa, j1De, k0Dy, k0Wo, k0Ri, k0Sz, k1Dy, k1Wo, k1Ri, k1Sz)
  else
    if p1 = 0 then
      b1 (
        if i0Ke = 0 then
          some 0
        else
          some 1) fun (t_2 : Int32) =>
      b7 (f_X1_become lPe lDa lDr lNa lMo lWa lDe) fun (j0Pe_3 : Int32) (j0Da_4 : Int32) (j0Dr_5 : Int32) (j0Na_6 : (Nat → Int32)) (j0Mo_7 : (Nat → Int32)) (j0Wa_8 : (Nat → Int32)) (j0De_9 : (Nat → Int32)) =>
      b4 (f_X5_become sDy sWo sRi sSz) fun (k0Dy_10 : (Nat → Int32)) (k0Wo_11 : (Nat → Int32)) (k0Ri_12 : (Nat → Int32)) (k0Sz_13 : Int32) =>
      some (t_2, 1, i1Ke, j0Pe_3, j0Da_4, j0Dr_5, j0Na_6, j0Mo_7, j0Wa_8, j0De_9, j1Pe, j1Da, j1Dr, j1Na, j1Mo, j1Wa, j1De, k0Dy_10, k0Wo_11, k0Ri_12, k0Sz_13, k1Dy, k1Wo, k1Ri, k1Sz)
    else
      if p1 = 1 then
        b1 (
          if i1Ke = 0 then
            some 0
          else
            some 1) fun (t_14 : Int32) =>
        b7 (f_X1_become lPe lDa lDr lNa lMo lWa lDe) fun (j1Pe_15 : Int32) (j1Da_16 : Int32) (j1Dr_17 : Int32) (j1Na_18 : (Nat → Int32)) (j1Mo_19 : (Nat → Int32)) (j1Wa_20 : (Nat → Int32)) (j1De_21 : (Nat → Int32)) =>
        b4 (f_X5_become sDy sWo sRi sSz) fun (k1Dy_22 : (Nat → Int32)) (k1Wo_23 : (Nat → Int32)) (k1Ri_24 : (Nat → Int32)) (k1Sz_25 : Int32) =>
        some (t_14, i0Ke, 1, j0Pe, j0Da, j0Dr, j0Na, j0Mo, j0Wa, j0De, j1Pe_15, j1Da_16, j1Dr_17, j1Na_18, j1Mo_19, j1Wa_20, j1De_21, k0Dy, k0Wo, k0Ri, k0Sz, k1Dy_22, k1Wo_23, k1Ri_24, k1Sz_25)
      else
        none
def f_X7_kind_L32 (lPe : Int32) (lDa : Int32) (lDr : Int32) (lNa : (Nat → Int32)) (lMo : (Nat → Int32)) (lWa : (Nat → Int32)) (lDe : (Nat → Int32)) (p1 : Int32) : Nat → Int32 → Int32 → Int32 → Int32 → Int32 → Int32 → (Nat → Int32) → (Nat → Int32) → (Nat → Int32) → (Nat → Int32) → Option (Int32 × Int32 × Int32 × Int32 × Int32 × (Nat → Int32) × (Nat → Int32) × (Nat → Int32) × (Nat → Int32))
  | 0, _, _, _, _, _, _, _, _, _, _ => none
  | n + 1, v3_3, v4_4, v5_5, tPe_6, tDa_7, tDr_8, tNa_9, tMo_10, tWa_11, tDe_12 =>
    if 4 ≤ v5_5 then
      some (v3_3, v4_4, tPe_6, tDa_7, tDr_8, tNa_9, tMo_10, tWa_11, tDe_12)
    else
      b7 (f_X1_become lPe lDa lDr lNa lMo lWa lDe) fun (tPe_22 : Int32) (tDa_23 : Int32) (tDr_24 : Int32) (tNa_25 : (Nat → Int32)) (tMo_26 : (Nat → Int32)) (tWa_27 : (Nat → Int32)) (tDe_28 : (Nat → Int32)) =>
      b1 (wr tNa_25 5 p1 v5_5) fun (tNa_29 : Nat → Int32) =>
      b4 (f_X1_daysTillRiding tPe_22 tDa_23 tDr_24 tNa_29 tMo_26 tWa_27 tDe_28 p1) fun (r_30 : Int32) (tDa_31 : Int32) (tMo_32 : (Nat → Int32)) (tDe_33 : (Nat → Int32)) =>
      if r_30 = (-4) then
        f_X7_kind_L32 lPe lDa lDr lNa lMo lWa lDe p1 n v3_3 v4_4 (v5_5 + 1) tPe_22 tDa_31 tDr_24 tNa_29 tMo_32 tWa_27 tDe_33
      else
        if v4_4 ≤ r_30 then
          f_X7_kind_L32 lPe lDa lDr lNa lMo lWa lDe p1 n v3_3 v4_4 (v5_5 + 1) tPe_22 tDa_31 tDr_24 tNa_29 tMo_32 tWa_27 tDe_33
        else
          f_X7_kind_L32 lPe lDa lDr lNa lMo lWa lDe p1 n v5_5 r_30 (v5_5 + 1) tPe_22 tDa_31 tDr_24 tNa_29 tMo_32 tWa_27 tDe_33
def f_X7_kind (lPe : Int32) (lDa : Int32) (lDr : Int32) (lNa : (Nat → Int32)) (lMo : (Nat → Int32)) (lWa : (Nat → Int32)) (lDe : (Nat → Int32)) (tPe : Int32) (tDa : Int32) (tDr : Int32) (tNa : (Nat → Int32)) (tMo : (Nat → Int32)) (tWa : (Nat → Int32)) (tDe : (Nat → Int32)) (p1 : Int32) (p2 : Int32) : Option (Int32 × Int32 × Int32 × Int32 × (Nat → Int32) × (Nat → Int32) × (Nat → Int32) × (Nat → Int32)) :=
  b1 (f_X1_has lPe p1) fun (r_1 : Int32) =>
  if r_1 = 0 then
    some ((-1), tPe, tDa, tDr, tNa, tMo, tWa, tDe)
  else
    b1 (f_X7_within p2 0 1) fun (r_2 : Int32) =>
    if r_2 = 0 then
      some ((-1), tPe, tDa, tDr, tNa, tMo, tWa, tDe)
    else
      b9 (f_X7_kind_L32 lPe lDa lDr lNa lMo lWa lDe p1 400 (-4) 61 0 tPe tDa tDr tNa tMo tWa tDe) fun (v3_13 : Int32) (v4_14 : Int32) (tPe_15 : Int32) (tDa_16 : Int32) (tDr_17 : Int32) (tNa_18 : (Nat → Int32)) (tMo_19 : (Nat → Int32)) (tWa_20 : (Nat → Int32)) (tDe_21 : (Nat → Int32)) =>
      if v3_13 = (-4) then
        some ((-4), tPe_15, tDa_16, tDr_17, tNa_18, tMo_19, tWa_20, tDe_21)
      else
        if p2 = 0 then
          some (v3_13, tPe_15, tDa_16, tDr_17, tNa_18, tMo_19, tWa_20, tDe_21)
        else
          some (v4_14, tPe_15, tDa_16, tDr_17, tNa_18, tMo_19, tWa_20, tDe_21)
def f_X7_kinds_L17 (lPe : Int32) (lDa : Int32) (lDr : Int32) (lNa : (Nat → Int32)) (lMo : (Nat → Int32)) (lWa : (Nat → Int32)) (lDe : (Nat → Int32)) (sDy : (Nat → Int32)) (sWo : (Nat → Int32)) (sRi : (Nat → Int32)) (sSz : Int32) (p1 : Int32) : Nat → Int32 → Int32 → Int32 → Int32 → Int32 → (Nat → Int32) → (Nat → Int32) → (Nat → Int32) → (Nat → Int32) → Option (Int32 × Int32 × Int32 × Int32 × (Nat → Int32) × (Nat → Int32) × (Nat → Int32) × (Nat → Int32))
  | 0, _, _, _, _, _, _, _, _, _ => none
  | n + 1, v2_2, v3_3, tPe_4, tDa_5, tDr_6, tNa_7, tMo_8, tWa_9, tDe_10 =>
    if 4 ≤ v3_3 then
      some (v2_2, tPe_4, tDa_5, tDr_6, tNa_7, tMo_8, tWa_9, tDe_10)
    else
      b7 (f_X1_become lPe lDa lDr lNa lMo lWa lDe) fun (tPe_19 : Int32) (tDa_20 : Int32) (tDr_21 : Int32) (tNa_22 : (Nat → Int32)) (tMo_23 : (Nat → Int32)) (tWa_24 : (Nat → Int32)) (tDe_25 : (Nat → Int32)) =>
      b1 (wr tNa_22 5 p1 v3_3) fun (tNa_26 : Nat → Int32) =>
      b4 (f_X5_fits sDy sWo sRi sSz tPe_19 tDa_20 tDr_21 tNa_26 tMo_23 tWa_24 tDe_25) fun (r_27 : Int32) (tDa_28 : Int32) (tMo_29 : (Nat → Int32)) (tDe_30 : (Nat → Int32)) =>
      if r_27 = 0 then
        f_X7_kinds_L17 lPe lDa lDr lNa lMo lWa lDe sDy sWo sRi sSz p1 n v2_2 (v3_3 + 1) tPe_19 tDa_28 tDr_21 tNa_26 tMo_29 tWa_24 tDe_30
      else
        f_X7_kinds_L17 lPe lDa lDr lNa lMo lWa lDe sDy sWo sRi sSz p1 n (v2_2 ||| ((1 : Int32) <<< (v3_3 &&& 31))) (v3_3 + 1) tPe_19 tDa_28 tDr_21 tNa_26 tMo_29 tWa_24 tDe_30
def f_X7_kinds (lPe : Int32) (lDa : Int32) (lDr : Int32) (lNa : (Nat → Int32)) (lMo : (Nat → Int32)) (lWa : (Nat → Int32)) (lDe : (Nat → Int32)) (tPe : Int32) (tDa : Int32) (tDr : Int32) (tNa : (Nat → Int32)) (tMo : (Nat → Int32)) (tWa : (Nat → Int32)) (tDe : (Nat → Int32)) (sDy : (Nat → Int32)) (sWo : (Nat → Int32)) (sRi : (Nat → Int32)) (sSz : Int32) (p1 : Int32) : Option (Int32 × Int32 × Int32 × Int32 × (Nat → Int32) × (Nat → Int32) × (Nat → Int32) × (Nat → Int32)) :=
  b1 (f_X1_has lPe p1) fun (r_1 : Int32) =>
  if r_1 = 0 then
    some ((-1), tPe, tDa, tDr, tNa, tMo, tWa, tDe)
  else
    b8 (f_X7_kinds_L17 lPe lDa lDr lNa lMo lWa lDe sDy sWo sRi sSz p1 400 0 0 tPe tDa tDr tNa tMo tWa tDe) fun (v2_11 : Int32) (tPe_12 : Int32) (tDa_13 : Int32) (tDr_14 : Int32) (tNa_15 : (Nat → Int32)) (tMo_16 : (Nat → Int32)) (tWa_17 : (Nat → Int32)) (tDe_18 : (Nat → Int32)) =>
    some (v2_11, tPe_12, tDa_13, tDr_14, tNa_15, tMo_16, tWa_17, tDe_18)
def f_X7_late (lPe : Int32) (lDa : Int32) (lDr : Int32) (lNa : (Nat → Int32)) (lMo : (Nat → Int32)) (lWa : (Nat → Int32)) (lDe : (Nat → Int32)) (tPe : Int32) (tDa : Int32) (tDr : Int32) (tNa : (Nat → Int32)) (tMo : (Nat → Int32)) (tWa : (Nat → Int32)) (tDe : (Nat → Int32)) (p1 : Int32) (p2 : Int32) : Option (Int32 × Int32 × Int32 × Int32 × (Nat → Int32) × (Nat → Int32) × (Nat → Int32) × (Nat → Int32)) :=
  b1 (f_X1_has lPe p1) fun (r_1 : Int32) =>
  if r_1 = 0 then
    some ((-1), tPe, tDa, tDr, tNa, tMo, tWa, tDe)
  else
    b1 (f_X7_within p2 0 9) fun (r_2 : Int32) =>
    if r_2 = 0 then
      some ((-1), tPe, tDa, tDr, tNa, tMo, tWa, tDe)
    else
      b8 (f_X7_daysByDryness lPe lDa lDr lNa lMo lWa lDe p1 0) fun (r_3 : Int32) (tPe_4 : Int32) (tDa_5 : Int32) (tDr_6 : Int32) (tNa_7 : (Nat → Int32)) (tMo_8 : (Nat → Int32)) (tWa_9 : (Nat → Int32)) (tDe_10 : (Nat → Int32)) =>
      b8 (f_X7_daysByDryness lPe lDa lDr lNa lMo lWa lDe p1 p2) fun (r_11 : Int32) (tPe_12 : Int32) (tDa_13 : Int32) (tDr_14 : Int32) (tNa_15 : (Nat → Int32)) (tMo_16 : (Nat → Int32)) (tWa_17 : (Nat → Int32)) (tDe_18 : (Nat → Int32)) =>
      if r_3 = (-4) then
        some ((-4), tPe_12, tDa_13, tDr_14, tNa_15, tMo_16, tWa_17, tDe_18)
      else
        if r_11 = (-4) then
          some ((-4), tPe_12, tDa_13, tDr_14, tNa_15, tMo_16, tWa_17, tDe_18)
        else
          some (r_11 - r_3, tPe_12, tDa_13, tDr_14, tNa_15, tMo_16, tWa_17, tDe_18)
def f_X7_lay (y0Th : Int32) (y0La : Int32) (y0Sz : Int32) (y0Ce : (Nat → Int32)) (y1Th : Int32) (y1La : Int32) (y1Sz : Int32) (y1Ce : (Nat → Int32)) (y2Th : Int32) (y2La : Int32) (y2Sz : Int32) (y2Ce : (Nat → Int32)) (y3Th : Int32) (y3La : Int32) (y3Sz : Int32) (y3Ce : (Nat → Int32)) (p1 : Int32) (p2 : Int32) (p3 : Int32) : Option (Int32 × (Nat → Int32) × (Nat → Int32) × (Nat → Int32) × (Nat → Int32)) :=
  b1 (f_X7_isSheet p1) fun (r_1 : Int32) =>
  if r_1 = 0 then
    some ((-1), y0Ce, y1Ce, y2Ce, y3Ce)
  else
    if p1 = 0 then
      b1 (f_X6_faultOfLaying y0Th y0Sz p2) fun (r_2 : Int32) =>
      if r_2 = 0 then
        if p1 = 0 then
          b1 (f_X6_put y0La y0Ce p2 p3) fun (y0Ce_3 : (Nat → Int32)) =>
          some (1, y0Ce_3, y1Ce, y2Ce, y3Ce)
        else
          if p1 = 1 then
            b1 (f_X6_put y1La y1Ce p2 p3) fun (y1Ce_4 : (Nat → Int32)) =>
            some (1, y0Ce, y1Ce_4, y2Ce, y3Ce)
          else
            if p1 = 2 then
              b1 (f_X6_put y2La y2Ce p2 p3) fun (y2Ce_5 : (Nat → Int32)) =>
              some (1, y0Ce, y1Ce, y2Ce_5, y3Ce)
            else
              if p1 = 3 then
                b1 (f_X6_put y3La y3Ce p2 p3) fun (y3Ce_6 : (Nat → Int32)) =>
                some (1, y0Ce, y1Ce, y2Ce, y3Ce_6)
              else
                none
      else
        some ((-10) - r_2, y0Ce, y1Ce, y2Ce, y3Ce)
    else
      if p1 = 1 then
        b1 (f_X6_faultOfLaying y1Th y1Sz p2) fun (r_7 : Int32) =>
        if r_7 = 0 then
          if p1 = 0 then
            b1 (f_X6_put y0La y0Ce p2 p3) fun (y0Ce_8 : (Nat → Int32)) =>
            some (1, y0Ce_8, y1Ce, y2Ce, y3Ce)
          else
            if p1 = 1 then
              b1 (f_X6_put y1La y1Ce p2 p3) fun (y1Ce_9 : (Nat → Int32)) =>
              some (1, y0Ce, y1Ce_9, y2Ce, y3Ce)
            else
              if p1 = 2 then
                b1 (f_X6_put y2La y2Ce p2 p3) fun (y2Ce_10 : (Nat → Int32)) =>
                some (1, y0Ce, y1Ce, y2Ce_10, y3Ce)
              else
                if p1 = 3 then
                  b1 (f_X6_put y3La y3Ce p2 p3) fun (y3Ce_11 : (Nat → Int32)) =>
                  some (1, y0Ce, y1Ce, y2Ce, y3Ce_11)
                else
                  none
        else
          some ((-10) - r_7, y0Ce, y1Ce, y2Ce, y3Ce)
      else
        if p1 = 2 then
          b1 (f_X6_faultOfLaying y2Th y2Sz p2) fun (r_12 : Int32) =>
          if r_12 = 0 then
            if p1 = 0 then
              b1 (f_X6_put y0La y0Ce p2 p3) fun (y0Ce_13 : (Nat → Int32)) =>
              some (1, y0Ce_13, y1Ce, y2Ce, y3Ce)
            else
              if p1 = 1 then
                b1 (f_X6_put y1La y1Ce p2 p3) fun (y1Ce_14 : (Nat → Int32)) =>
                some (1, y0Ce, y1Ce_14, y2Ce, y3Ce)
              else
                if p1 = 2 then
                  b1 (f_X6_put y2La y2Ce p2 p3) fun (y2Ce_15 : (Nat → Int32)) =>
                  some (1, y0Ce, y1Ce, y2Ce_15, y3Ce)
                else
                  if p1 = 3 then
                    b1 (f_X6_put y3La y3Ce p2 p3) fun (y3Ce_16 : (Nat → Int32)) =>
                    some (1, y0Ce, y1Ce, y2Ce, y3Ce_16)
                  else
                    none
          else
            some ((-10) - r_12, y0Ce, y1Ce, y2Ce, y3Ce)
        else
          if p1 = 3 then
            b1 (f_X6_faultOfLaying y3Th y3Sz p2) fun (r_17 : Int32) =>
            if r_17 = 0 then
              if p1 = 0 then
                b1 (f_X6_put y0La y0Ce p2 p3) fun (y0Ce_18 : (Nat → Int32)) =>
                some (1, y0Ce_18, y1Ce, y2Ce, y3Ce)
              else
                if p1 = 1 then
                  b1 (f_X6_put y1La y1Ce p2 p3) fun (y1Ce_19 : (Nat → Int32)) =>
                  some (1, y0Ce, y1Ce_19, y2Ce, y3Ce)
                else
                  if p1 = 2 then
                    b1 (f_X6_put y2La y2Ce p2 p3) fun (y2Ce_20 : (Nat → Int32)) =>
                    some (1, y0Ce, y1Ce, y2Ce_20, y3Ce)
                  else
                    if p1 = 3 then
                      b1 (f_X6_put y3La y3Ce p2 p3) fun (y3Ce_21 : (Nat → Int32)) =>
                      some (1, y0Ce, y1Ce, y2Ce, y3Ce_21)
                    else
                      none
            else
              some ((-10) - r_17, y0Ce, y1Ce, y2Ce, y3Ce)
          else
            none
def f_X7_least_L4 (lPe : Int32) (lDe : (Nat → Int32)) : Nat → Int32 → Int32 → Option (Int32)
  | 0, _, _ => none
  | n + 1, v1_1, v2_2 =>
    if lPe ≤ v2_2 then
      some v1_1
    else
      b1 (f_X1_netOf lPe lDe v2_2) fun (r_4 : Int32) =>
      b1 (some (if 0 < r_4 then r_4 else 0)) fun (z_5 : Int32) =>
      f_X7_least_L4 lPe lDe n (v1_1 + z_5) (v2_2 + 1)
def f_X7_least (lPe : Int32) (lDe : (Nat → Int32)) : Option (Int32) :=
  b1 (f_X7_least_L4 lPe lDe 400 0 0) fun (v1_3 : Int32) =>
  some v1_3
def f_X7_lend (lPe : Int32) (lMo : (Nat → Int32)) (lDe : (Nat → Int32)) (p1 : Int32) (p2 : Int32) (p3 : Int32) : Option (Int32 × (Nat → Int32) × (Nat → Int32)) :=
  b3 (f_X1_lendTo lPe lMo lDe p1 p2 p3) fun (r_1 : Int32) (lMo_2 : (Nat → Int32)) (lDe_3 : (Nat → Int32)) =>
  some (r_1, lMo_2, lDe_3)
def f_X7_luck (lPe : Int32) (lDa : Int32) (lDr : Int32) (lNa : (Nat → Int32)) (lMo : (Nat → Int32)) (lWa : (Nat → Int32)) (lDe : (Nat → Int32)) (p1 : Int32) (p2 : Int32) (p3 : Int32) (p4 : Int32) : Option (Int64) :=
  b1 (f_X1_has lPe p2) fun (r_1 : Int32) =>
  if r_1 = 0 then
    some (-1)
  else
    b1 (f_X7_areOdds p1 p3 p4) fun (r_2 : Int32) =>
    if r_2 = 0 then
      some (-1)
    else
      b1 (f_X2_fractionOf lPe lDa lDr lNa lMo lWa lDe p1 p2 p3 p4) fun (r_3 : Int64) =>
      some r_3
def f_X7_mean (lPe : Int32) (lDa : Int32) (lDr : Int32) (lNa : (Nat → Int32)) (lMo : (Nat → Int32)) (lWa : (Nat → Int32)) (lDe : (Nat → Int32)) (p1 : Int32) (p2 : Int32) (p3 : Int32) : Option (Int64) :=
  b1 (f_X7_areOdds p1 p2 p3) fun (r_1 : Int32) =>
  if r_1 = 0 then
    some (-1)
  else
    b1 (f_X2_fractionOf lPe lDa lDr lNa lMo lWa lDe p1 (-1) p2 p3) fun (r_2 : Int64) =>
    some r_2
def f_X7_meet (lPe : Int32) (lNa : (Nat → Int32)) (lDe : (Nat → Int32)) (p1 : Int32) (p2 : Int32) : Option (Int32) :=
  b1 (f_X1_hasPair lPe p1 p2) fun (r_1 : Int32) =>
  if r_1 = 0 then
    some (-1)
  else
    b1 (f_X1_heightOf lPe lNa lDe p1) fun (r_2 : Int32) =>
    b1 (f_X1_heightOf lPe lNa lDe p2) fun (r_3 : Int32) =>
    if r_2 = r_3 then
      some (-4)
    else
      if r_3 ≤ r_2 then
        some p2
      else
        some p1
def f_X7_net (lPe : Int32) (lDe : (Nat → Int32)) (p1 : Int32) : Option (Int32) :=
  b1 (f_X1_has lPe p1) fun (r_1 : Int32) =>
  if r_1 = 0 then
    some (-1)
  else
    b1 (f_X1_netOf lPe lDe p1) fun (r_2 : Int32) =>
    some (r_2 + 1000)
def f_X7_one (lPe : Int32) (lNa : (Nat → Int32)) (lMo : (Nat → Int32)) (lWa : (Nat → Int32)) (lDe : (Nat → Int32)) (p1 : Int32) (p2 : Int32) : Option (Int32) :=
  b1 (f_X1_has lPe p1) fun (r_1 : Int32) =>
  if r_1 = 0 then
    some (-1)
  else
    if p2 = 0 then
      b1 (rd lNa 5 p1) fun (a_2 : Int32) =>
      some a_2
    else
      if p2 = 1 then
        b1 (rd lMo 5 p1) fun (a_3 : Int32) =>
        some a_3
      else
        if p2 = 2 then
          b1 (rd lWa 5 p1) fun (a_4 : Int32) =>
          some a_4
        else
          if p2 = 3 then
            b1 (f_X1_owedBy lPe lDe p1) fun (r_5 : Int32) =>
            some r_5
          else
            if p2 = 4 then
              b1 (f_X1_owedTo lPe lDe p1) fun (r_6 : Int32) =>
              some r_6
            else
              if p2 = 5 then
                b1 (f_X1_heightOf lPe lNa lDe p1) fun (r_7 : Int32) =>
                some r_7
              else
                if p2 = 6 then
                  b1 (f_X1_willOf lPe lNa lMo lDe p1) fun (r_8 : Int32) =>
                  some r_8
                else
                  some (-1)
def f_X7_owes (lPe : Int32) (lDe : (Nat → Int32)) (p1 : Int32) (p2 : Int32) : Option (Int32) :=
  b1 (f_X1_hasPair lPe p1 p2) fun (r_1 : Int32) =>
  if r_1 = 0 then
    some (-1)
  else
    b1 (f_X1_debt lDe p1 p2) fun (r_2 : Int32) =>
    some r_2
def f_X7_pay (lPe : Int32) (lMo : (Nat → Int32)) (lDe : (Nat → Int32)) (p1 : Int32) (p2 : Int32) (p3 : Int32) : Option (Int32 × (Nat → Int32) × (Nat → Int32)) :=
  b3 (f_X1_payTo lPe lMo lDe p1 p2 p3) fun (r_1 : Int32) (lMo_2 : (Nat → Int32)) (lDe_3 : (Nat → Int32)) =>
  some (r_1, lMo_2, lDe_3)
def f_X7_read_L57 (xTb : Int32) (lPe : Int32) (lDa : Int32) (lDr : Int32) (lNa : (Nat → Int32)) (lMo : (Nat → Int32)) (lWa : (Nat → Int32)) (lDe : (Nat → Int32)) (y0Th : Int32) (y0La : Int32) (y0Sz : Int32) (y0Ce : (Nat → Int32)) (p2 : Int32) (p3 : Int32) (p4 : Int32) (tPe_4 : Int32) (tDa_5 : Int32) (tDr_6 : Int32) (tNa_7 : (Nat → Int32)) (tWa_9 : (Nat → Int32)) : Nat → Int32 → Int32 → Int32 → (Nat → Int32) → (Nat → Int32) → Option ((Int32 × Int32 × Int32 × Int32 × Int32 × (Nat → Int32) × (Nat → Int32) × (Nat → Int32) × (Nat → Int32) × Int32 × Int32 × Int32 × (Nat → Int32) × (Nat → Int32) × (Nat → Int32) × (Nat → Int32)) ⊕ (Int32 × Int32 × (Nat → Int32) × (Nat → Int32)))
  | 0, _, _, _, _, _ => none
  | n + 1, v6_11, v7_12, v8_13, tMo_14, tDe_15 =>
    if p4 ≤ v8_13 then
      some (Sum.inr (v6_11, v7_12, tMo_14, tDe_15))
    else
      if v6_11 = 0 then
        b1 (f_X6_faultOfReading y0Th y0La y0Sz p2 (p3 + (3 * v8_13))) fun (r_20 : Int32) =>
        if r_20 = 0 then
          b1 (rd y0Ce 40 (p3 + (3 * v8_13))) fun (a_21 : Int32) =>
          b1 (rd y0Ce 40 ((p3 + (3 * v8_13)) + 1)) fun (a_22 : Int32) =>
          b1 (rd y0Ce 40 ((p3 + (3 * v8_13)) + 2)) fun (a_23 : Int32) =>
          b3 (f_X1_payTo tPe_4 tMo_14 tDe_15 a_21 a_22 a_23) fun (r_24 : Int32) (tMo_25 : (Nat → Int32)) (tDe_26 : (Nat → Int32)) =>
          if 0 ≤ r_24 then
            f_X7_read_L57 xTb lPe lDa lDr lNa lMo lWa lDe y0Th y0La y0Sz y0Ce p2 p3 p4 tPe_4 tDa_5 tDr_6 tNa_7 tWa_9 n r_20 (v7_12 + 1) (v8_13 + 1) tMo_25 tDe_26
          else
            some (Sum.inl ((-20) - v8_13, xTb, lPe, lDa, lDr, lNa, lMo, lWa, lDe, tPe_4, tDa_5, tDr_6, tNa_7, tMo_25, tWa_9, tDe_26))
        else
          f_X7_read_L57 xTb lPe lDa lDr lNa lMo lWa lDe y0Th y0La y0Sz y0Ce p2 p3 p4 tPe_4 tDa_5 tDr_6 tNa_7 tWa_9 n r_20 v7_12 (v8_13 + 1) tMo_14 tDe_15
      else
        some (Sum.inr (v6_11, v7_12, tMo_14, tDe_15))
def f_X7_read (xTb : Int32) (lPe : Int32) (lDa : Int32) (lDr : Int32) (lNa : (Nat → Int32)) (lMo : (Nat → Int32)) (lWa : (Nat → Int32)) (lDe : (Nat → Int32)) (tPe : Int32) (tDa : Int32) (tDr : Int32) (tNa : (Nat → Int32)) (tMo : (Nat → Int32)) (tWa : (Nat → Int32)) (tDe : (Nat → Int32)) (y0Th : Int32) (y0La : Int32) (y0Sz : Int32) (y0Ce : (Nat → Int32)) (y1Th : Int32) (y1La : Int32) (y1Sz : Int32) (y1Ce : (Nat → Int32)) (y2Th : Int32) (y2La : Int32) (y2Sz : Int32) (y2Ce : (Nat → Int32)) (y3Th : Int32) (y3La : Int32) (y3Sz : Int32) (y3Ce : (Nat → Int32)) (p1 : Int32) (p2 : Int32) (p3 : Int32) (p4 : Int32) : Option (Int32 × Int32 × Int32 × Int32 × Int32 × (Nat → Int32) × (Nat → Int32) × (Nat → Int32) × (Nat → Int32) × Int32 × Int32 × Int32 × (Nat → Int32) × (Nat → Int32) × (Nat → Int32) × (Nat → Int32)) :=
  b1 (f_X7_isSheet p1) fun (r_1 : Int32) =>
  if r_1 = 0 then
    some ((-1), xTb, lPe, lDa, lDr, lNa, lMo, lWa, lDe, tPe, tDa, tDr, tNa, tMo, tWa, tDe)
  else
    b1 (f_X7_within p2 0 2) fun (r_2 : Int32) =>
    if r_2 = 0 then
      some ((-1), xTb, lPe, lDa, lDr, lNa, lMo, lWa, lDe, tPe, tDa, tDr, tNa, tMo, tWa, tDe)
    else
      b1 (f_X7_within p4 0 13) fun (r_3 : Int32) =>
      if r_3 = 0 then
        some ((-1), xTb, lPe, lDa, lDr, lNa, lMo, lWa, lDe, tPe, tDa, tDr, tNa, tMo, tWa, tDe)
      else
        if p1 = 0 then
          b7 (f_X1_become lPe lDa lDr lNa lMo lWa lDe) fun (tPe_4 : Int32) (tDa_5 : Int32) (tDr_6 : Int32) (tNa_7 : (Nat → Int32)) (tMo_8 : (Nat → Int32)) (tWa_9 : (Nat → Int32)) (tDe_10 : (Nat → Int32)) =>
          bs4 (f_X7_read_L57 xTb lPe lDa lDr lNa lMo lWa lDe y0Th y0La y0Sz y0Ce p2 p3 p4 tPe_4 tDa_5 tDr_6 tNa_7 tWa_9 400 0 0 0 tMo_8 tDe_10) fun (v6_16 : Int32) (v7_17 : Int32) (tMo_18 : (Nat → Int32)) (tDe_19 : (Nat → Int32)) =>
          b7 (f_X1_become tPe_4 tDa_5 tDr_6 tNa_7 tMo_18 tWa_9 tDe_19) fun (lPe_27 : Int32) (lDa_28 : Int32) (lDr_29 : Int32) (lNa_30 : (Nat → Int32)) (lMo_31 : (Nat → Int32)) (lWa_32 : (Nat → Int32)) (lDe_33 : (Nat → Int32)) =>
          some (v7_17, v6_16, lPe_27, lDa_28, lDr_29, lNa_30, lMo_31, lWa_32, lDe_33, tPe_4, tDa_5, tDr_6, tNa_7, tMo_18, tWa_9, tDe_19)
        else
          if p1 = 1 then
            b7 (f_X1_become lPe lDa lDr lNa lMo lWa lDe) fun (tPe_34 : Int32) (tDa_35 : Int32) (tDr_36 : Int32) (tNa_37 : (Nat → Int32)) (tMo_38 : (Nat → Int32)) (tWa_39 : (Nat → Int32)) (tDe_40 : (Nat → Int32)) =>
            bs4 (f_X7_read_L57 xTb lPe lDa lDr lNa lMo lWa lDe y1Th y1La y1Sz y1Ce p2 p3 p4 tPe_34 tDa_35 tDr_36 tNa_37 tWa_39 400 0 0 0 tMo_38 tDe_40) fun (v6_46 : Int32) (v7_47 : Int32) (tMo_48 : (Nat → Int32)) (tDe_49 : (Nat → Int32)) =>
            b7 (f_X1_become tPe_34 tDa_35 tDr_36 tNa_37 tMo_48 tWa_39 tDe_49) fun (lPe_57 : Int32) (lDa_58 : Int32) (lDr_59 : Int32) (lNa_60 : (Nat → Int32)) (lMo_61 : (Nat → Int32)) (lWa_62 : (Nat → Int32)) (lDe_63 : (Nat → Int32)) =>
            some (v7_47, v6_46, lPe_57, lDa_58, lDr_59, lNa_60, lMo_61, lWa_62, lDe_63, tPe_34, tDa_35, tDr_36, tNa_37, tMo_48, tWa_39, tDe_49)
          else
            if p1 = 2 then
              b7 (f_X1_become lPe lDa lDr lNa lMo lWa lDe) fun (tPe_64 : Int32) (tDa_65 : Int32) (tDr_66 : Int32) (tNa_67 : (Nat → Int32)) (tMo_68 : (Nat → Int32)) (tWa_69 : (Nat → Int32)) (tDe_70 : (Nat → Int32)) =>
              bs4 (f_X7_read_L57 xTb lPe lDa lDr lNa lMo lWa lDe y2Th y2La y2Sz y2Ce p2 p3 p4 tPe_64 tDa_65 tDr_66 tNa_67 tWa_69 400 0 0 0 tMo_68 tDe_70) fun (v6_76 : Int32) (v7_77 : Int32) (tMo_78 : (Nat → Int32)) (tDe_79 : (Nat → Int32)) =>
              b7 (f_X1_become tPe_64 tDa_65 tDr_66 tNa_67 tMo_78 tWa_69 tDe_79) fun (lPe_87 : Int32) (lDa_88 : Int32) (lDr_89 : Int32) (lNa_90 : (Nat → Int32)) (lMo_91 : (Nat → Int32)) (lWa_92 : (Nat → Int32)) (lDe_93 : (Nat → Int32)) =>
              some (v7_77, v6_76, lPe_87, lDa_88, lDr_89, lNa_90, lMo_91, lWa_92, lDe_93, tPe_64, tDa_65, tDr_66, tNa_67, tMo_78, tWa_69, tDe_79)
            else
              if p1 = 3 then
                b7 (f_X1_become lPe lDa lDr lNa lMo lWa lDe) fun (tPe_94 : Int32) (tDa_95 : Int32) (tDr_96 : Int32) (tNa_97 : (Nat → Int32)) (tMo_98 : (Nat → Int32)) (tWa_99 : (Nat → Int32)) (tDe_100 : (Nat → Int32)) =>
                bs4 (f_X7_read_L57 xTb lPe lDa lDr lNa lMo lWa lDe y3Th y3La y3Sz y3Ce p2 p3 p4 tPe_94 tDa_95 tDr_96 tNa_97 tWa_99 400 0 0 0 tMo_98 tDe_100) fun (v6_106 : Int32) (v7_107 : Int32) (tMo_108 : (Nat → Int32)) (tDe_109 : (Nat → Int32)) =>
                b7 (f_X1_become tPe_94 tDa_95 tDr_96 tNa_97 tMo_108 tWa_99 tDe_109) fun (lPe_117 : Int32) (lDa_118 : Int32) (lDr_119 : Int32) (lNa_120 : (Nat → Int32)) (lMo_121 : (Nat → Int32)) (lWa_122 : (Nat → Int32)) (lDe_123 : (Nat → Int32)) =>
                some (v7_107, v6_106, lPe_117, lDa_118, lDr_119, lNa_120, lMo_121, lWa_122, lDe_123, tPe_94, tDa_95, tDr_96, tNa_97, tMo_108, tWa_99, tDe_109)
              else
                none
def f_X7_rides (lPe : Int32) (lDa : Int32) (lDr : Int32) (lNa : (Nat → Int32)) (lMo : (Nat → Int32)) (lWa : (Nat → Int32)) (lDe : (Nat → Int32)) (tPe : Int32) (tDa : Int32) (tDr : Int32) (tNa : (Nat → Int32)) (tMo : (Nat → Int32)) (tWa : (Nat → Int32)) (tDe : (Nat → Int32)) (p1 : Int32) : Option (Int32 × Int32 × Int32 × Int32 × (Nat → Int32) × (Nat → Int32) × (Nat → Int32) × (Nat → Int32)) :=
  b1 (f_X1_has lPe p1) fun (r_1 : Int32) =>
  if r_1 = 0 then
    some ((-1), tPe, tDa, tDr, tNa, tMo, tWa, tDe)
  else
    b7 (f_X1_become lPe lDa lDr lNa lMo lWa lDe) fun (tPe_2 : Int32) (tDa_3 : Int32) (tDr_4 : Int32) (tNa_5 : (Nat → Int32)) (tMo_6 : (Nat → Int32)) (tWa_7 : (Nat → Int32)) (tDe_8 : (Nat → Int32)) =>
    b4 (f_X1_daysTillRiding tPe_2 tDa_3 tDr_4 tNa_5 tMo_6 tWa_7 tDe_8 p1) fun (r_9 : Int32) (tDa_10 : Int32) (tMo_11 : (Nat → Int32)) (tDe_12 : (Nat → Int32)) =>
    some (r_9, tPe_2, tDa_10, tDr_4, tNa_5, tMo_11, tWa_7, tDe_12)
def f_X7_ring_B24 (lPe : Int32) (lDe : (Nat → Int32)) (fRo : (Nat → Int32)) (fSz : Int32) (p1 : Int32) : Option (Int32 × (Nat → Int32) × Int32) :=
  b3 (f_X4_find fRo fSz lPe lDe) fun (r_3 : Int32) (fRo_4 : (Nat → Int32)) (fSz_5 : Int32) =>
  if r_3 = 0 then
    some ((-4), fRo_4, fSz_5)
  else
    if p1 = 0 then
      some (fSz_5, fRo_4, fSz_5)
    else
      if p1 = 1 then
        b1 (f_X4_leastDebt fRo_4 fSz_5 lDe) fun (r_7 : Int32) =>
        some (r_7, fRo_4, fSz_5)
      else
        if fSz_5 ≤ (p1 - 10) then
          some ((-4), fRo_4, fSz_5)
        else
          b1 (rd fRo_4 5 (p1 - 10)) fun (a_6 : Int32) =>
          some (a_6, fRo_4, fSz_5)
def f_X7_ring (lPe : Int32) (lDe : (Nat → Int32)) (fRo : (Nat → Int32)) (fSz : Int32) (p1 : Int32) : Option (Int32 × (Nat → Int32) × Int32) :=
  b1 (f_X7_within p1 10 14) fun (r_1 : Int32) =>
  b1 (f_X7_within p1 0 1) fun (r_2 : Int32) =>
  if r_2 = 0 then
    if r_1 = 0 then
      some ((-1), fRo, fSz)
    else
      f_X7_ring_B24 lPe lDe fRo fSz p1
  else
    f_X7_ring_B24 lPe lDe fRo fSz p1
def f_X7_rule (lPe : Int32) (lDa : Int32) (lDr : Int32) (lMo : (Nat → Int32)) (lDe : (Nat → Int32)) (p1 : Int32) : Option (Int32) :=
  if p1 = 0 then
    some lPe
  else
    if p1 = 1 then
      some lDa
    else
      if p1 = 2 then
        some lDr
      else
        if p1 = 3 then
          b1 (f_X1_riders lPe lDe) fun (r_1 : Int32) =>
          some r_1
        else
          if p1 = 4 then
            b1 (f_X1_owedInAll lPe lDe) fun (r_2 : Int32) =>
            some r_2
          else
            if p1 = 5 then
              b1 (f_X1_moneyInAll lPe lMo) fun (r_3 : Int32) =>
              some r_3
            else
              some (-1)
def f_X7_runs (lPe : Int32) (lDa : Int32) (lDr : Int32) (lNa : (Nat → Int32)) (lMo : (Nat → Int32)) (lWa : (Nat → Int32)) (lDe : (Nat → Int32)) (tPe : Int32) (tDa : Int32) (tDr : Int32) (tNa : (Nat → Int32)) (tMo : (Nat → Int32)) (tWa : (Nat → Int32)) (tDe : (Nat → Int32)) (p1 : Int32) (p2 : Int32) : Option (Int32 × Int32 × Int32 × Int32 × (Nat → Int32) × (Nat → Int32) × (Nat → Int32) × (Nat → Int32)) :=
  b1 (f_X7_within p1 0 60) fun (r_1 : Int32) =>
  if r_1 = 0 then
    some ((-1), tPe, tDa, tDr, tNa, tMo, tWa, tDe)
  else
    b1 (f_X7_within p2 0 3) fun (r_2 : Int32) =>
    if r_2 = 0 then
      some ((-1), tPe, tDa, tDr, tNa, tMo, tWa, tDe)
    else
      b7 (f_X1_become lPe lDa lDr lNa lMo lWa lDe) fun (tPe_3 : Int32) (tDa_4 : Int32) (tDr_5 : Int32) (tNa_6 : (Nat → Int32)) (tMo_7 : (Nat → Int32)) (tWa_8 : (Nat → Int32)) (tDe_9 : (Nat → Int32)) =>
      if p2 = 3 then
        b4 (f_X1_daysTillAllRide tPe_3 tDa_4 tDr_5 tNa_6 tMo_7 tWa_8 tDe_9 p1) fun (r_17 : Int32) (tDa_18 : Int32) (tMo_19 : (Nat → Int32)) (tDe_20 : (Nat → Int32)) =>
        some (r_17, tPe_3, tDa_18, tDr_5, tNa_6, tMo_19, tWa_8, tDe_20)
      else
        b4 (f_X1_runDays tPe_3 tDa_4 tDr_5 tNa_6 tMo_7 tWa_8 tDe_9 p1) fun (r_10 : Int32) (tDa_11 : Int32) (tMo_12 : (Nat → Int32)) (tDe_13 : (Nat → Int32)) =>
        if p2 = 0 then
          b1 (f_X1_owedInAll tPe_3 tDe_13) fun (r_16 : Int32) =>
          some (r_16, tPe_3, tDa_11, tDr_5, tNa_6, tMo_12, tWa_8, tDe_13)
        else
          if p2 = 1 then
            b1 (f_X1_riders tPe_3 tDe_13) fun (r_15 : Int32) =>
            some (r_15, tPe_3, tDa_11, tDr_5, tNa_6, tMo_12, tWa_8, tDe_13)
          else
            b1 (f_X1_moneyInAll tPe_3 tMo_12) fun (r_14 : Int32) =>
            some (r_14, tPe_3, tDa_11, tDr_5, tNa_6, tMo_12, tWa_8, tDe_13)
def f_X7_see (lPe : Int32) (sDy : (Nat → Int32)) (sWo : (Nat → Int32)) (sRi : (Nat → Int32)) (sSz : Int32) (p1 : Int32) (p2 : Int32) (p3 : Int32) : Option (Int32 × (Nat → Int32) × (Nat → Int32) × (Nat → Int32) × Int32) :=
  b1 (f_X7_within p1 0 30) fun (r_1 : Int32) =>
  if r_1 = 0 then
    some ((-1), sDy, sWo, sRi, sSz)
  else
    b1 (f_X1_has lPe p2) fun (r_2 : Int32) =>
    if r_2 = 0 then
      some ((-1), sDy, sWo, sRi, sSz)
    else
      if sSz < 6 then
        b4 (f_X5_add sDy sWo sRi sSz p1 p2 p3) fun (sDy_3 : (Nat → Int32)) (sWo_4 : (Nat → Int32)) (sRi_5 : (Nat → Int32)) (sSz_6 : Int32) =>
        some (sSz_6, sDy_3, sWo_4, sRi_5, sSz_6)
      else
        some ((-3), sDy, sWo, sRi, sSz)
def f_X7_sheet (y0Th : Int32) (y0La : Int32) (y0Sz : Int32) (y0Ce : (Nat → Int32)) (y1Th : Int32) (y1La : Int32) (y1Sz : Int32) (y1Ce : (Nat → Int32)) (y2Th : Int32) (y2La : Int32) (y2Sz : Int32) (y2Ce : (Nat → Int32)) (y3Th : Int32) (y3La : Int32) (y3Sz : Int32) (y3Ce : (Nat → Int32)) (p1 : Int32) (p2 : Int32) (p3 : Int32) : Option (Int32 × Int32 × Int32 × Int32 × (Nat → Int32) × Int32 × Int32 × Int32 × (Nat → Int32) × Int32 × Int32 × Int32 × (Nat → Int32) × Int32 × Int32 × Int32 × (Nat → Int32)) :=
  b1 (f_X7_isSheet p1) fun (r_1 : Int32) =>
  if r_1 = 0 then
    some ((-1), y0Th, y0La, y0Sz, y0Ce, y1Th, y1La, y1Sz, y1Ce, y2Th, y2La, y2Sz, y2Ce, y3Th, y3La, y3Sz, y3Ce)
  else
    b1 (f_X7_within p2 0 2) fun (r_2 : Int32) =>
    if r_2 = 0 then
      some ((-1), y0Th, y0La, y0Sz, y0Ce, y1Th, y1La, y1Sz, y1Ce, y2Th, y2La, y2Sz, y2Ce, y3Th, y3La, y3Sz, y3Ce)
    else
      if p3 ≤ 40 then
        if 0 ≤ p3 then
          if p1 = 0 then
            b4 (f_X6_renew p2 p3) fun (y0Th_3 : Int32) (y0La_4 : Int32) (y0Sz_5 : Int32) (y0Ce_6 : (Nat → Int32)) =>
            some (1, y0Th_3, y0La_4, y0Sz_5, y0Ce_6, y1Th, y1La, y1Sz, y1Ce, y2Th, y2La, y2Sz, y2Ce, y3Th, y3La, y3Sz, y3Ce)
          else
            if p1 = 1 then
              b4 (f_X6_renew p2 p3) fun (y1Th_7 : Int32) (y1La_8 : Int32) (y1Sz_9 : Int32) (y1Ce_10 : (Nat → Int32)) =>
              some (1, y0Th, y0La, y0Sz, y0Ce, y1Th_7, y1La_8, y1Sz_9, y1Ce_10, y2Th, y2La, y2Sz, y2Ce, y3Th, y3La, y3Sz, y3Ce)
            else
              if p1 = 2 then
                b4 (f_X6_renew p2 p3) fun (y2Th_11 : Int32) (y2La_12 : Int32) (y2Sz_13 : Int32) (y2Ce_14 : (Nat → Int32)) =>
                some (1, y0Th, y0La, y0Sz, y0Ce, y1Th, y1La, y1Sz, y1Ce, y2Th_11, y2La_12, y2Sz_13, y2Ce_14, y3Th, y3La, y3Sz, y3Ce)
              else
                if p1 = 3 then
                  b4 (f_X6_renew p2 p3) fun (y3Th_15 : Int32) (y3La_16 : Int32) (y3Sz_17 : Int32) (y3Ce_18 : (Nat → Int32)) =>
                  some (1, y0Th, y0La, y0Sz, y0Ce, y1Th, y1La, y1Sz, y1Ce, y2Th, y2La, y2Sz, y2Ce, y3Th_15, y3La_16, y3Sz_17, y3Ce_18)
                else
                  none
        else
          some ((-14), y0Th, y0La, y0Sz, y0Ce, y1Th, y1La, y1Sz, y1Ce, y2Th, y2La, y2Sz, y2Ce, y3Th, y3La, y3Sz, y3Ce)
      else
        some ((-1), y0Th, y0La, y0Sz, y0Ce, y1Th, y1La, y1Sz, y1Ce, y2Th, y2La, y2Sz, y2Ce, y3Th, y3La, y3Sz, y3Ce)
def f_X7_torn (xTb : Int32) : Option (Int32) :=
  some xTb
def f_X7_train_L50 (tPe_3 : Int32) (tDe_13 : (Nat → Int32)) : Nat → Int32 → Int32 → Int32 → Option (Int32 × Int32)
  | 0, _, _, _ => none
  | n + 1, v3_14, v4_15, v5_16 =>
    if tPe_3 ≤ v5_16 then
      some (v3_14, v4_15)
    else
      b1 (f_X1_owedBy tPe_3 tDe_13 v5_16) fun (r_19 : Int32) =>
      if r_19 ≤ v4_15 then
        f_X7_train_L50 tPe_3 tDe_13 n v3_14 v4_15 (v5_16 + 1)
      else
        f_X7_train_L50 tPe_3 tDe_13 n v5_16 r_19 (v5_16 + 1)
def f_X7_train (lPe : Int32) (lDa : Int32) (lDr : Int32) (lNa : (Nat → Int32)) (lMo : (Nat → Int32)) (lWa : (Nat → Int32)) (lDe : (Nat → Int32)) (tPe : Int32) (tDa : Int32) (tDr : Int32) (tNa : (Nat → Int32)) (tMo : (Nat → Int32)) (tWa : (Nat → Int32)) (tDe : (Nat → Int32)) (p1 : Int32) (p2 : Int32) : Option (Int32 × Int32 × Int32 × Int32 × (Nat → Int32) × (Nat → Int32) × (Nat → Int32) × (Nat → Int32)) :=
  b1 (f_X7_within p1 0 60) fun (r_1 : Int32) =>
  if r_1 = 0 then
    some ((-1), tPe, tDa, tDr, tNa, tMo, tWa, tDe)
  else
    b1 (f_X7_within p2 0 1) fun (r_2 : Int32) =>
    if r_2 = 0 then
      some ((-1), tPe, tDa, tDr, tNa, tMo, tWa, tDe)
    else
      b7 (f_X1_become lPe lDa lDr lNa lMo lWa lDe) fun (tPe_3 : Int32) (tDa_4 : Int32) (tDr_5 : Int32) (tNa_6 : (Nat → Int32)) (tMo_7 : (Nat → Int32)) (tWa_8 : (Nat → Int32)) (tDe_9 : (Nat → Int32)) =>
      b4 (f_X1_runDays tPe_3 tDa_4 tDr_5 tNa_6 tMo_7 tWa_8 tDe_9 p1) fun (r_10 : Int32) (tDa_11 : Int32) (tMo_12 : (Nat → Int32)) (tDe_13 : (Nat → Int32)) =>
      b2 (f_X7_train_L50 tPe_3 tDe_13 400 (-4) 0 0) fun (v3_17 : Int32) (v4_18 : Int32) =>
      if v3_17 = (-4) then
        some ((-4), tPe_3, tDa_11, tDr_5, tNa_6, tMo_12, tWa_8, tDe_13)
      else
        if p2 = 0 then
          some (v3_17, tPe_3, tDa_11, tDr_5, tNa_6, tMo_12, tWa_8, tDe_13)
        else
          some (v4_18, tPe_3, tDa_11, tDr_5, tNa_6, tMo_12, tWa_8, tDe_13)
