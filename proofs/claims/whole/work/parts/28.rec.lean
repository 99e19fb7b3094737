theorem dX2_readLevel_0 : decode cX2_readLevel 0 = .ok (.iload_n 1, 1) := by decide +kernel
theorem dX2_readLevel_1 : decode cX2_readLevel 1 = .ok (.iconst 5, 1) := by decide +kernel
theorem dX2_readLevel_2 : decode cX2_readLevel 2 = .ok (.if_icmp .lt 9, 3) := by decide +kernel
theorem dX2_readLevel_5 : decode cX2_readLevel 5 = .ok (.aload_n 0, 1) := by decide +kernel
theorem dX2_readLevel_6 : decode cX2_readLevel 6 = .ok (.iload_n 2, 1) := by decide +kernel
theorem dX2_readLevel_7 : decode cX2_readLevel 7 = .ok (.invokevirtual 191, 3) := by decide +kernel
theorem dX2_readLevel_10 : decode cX2_readLevel 10 = .ok (.return_, 1) := by decide +kernel
theorem dX2_readLevel_11 : decode cX2_readLevel 11 = .ok (.iload_n 1, 1) := by decide +kernel
theorem dX2_readLevel_12 : decode cX2_readLevel 12 = .ok (.iconst 2, 1) := by decide +kernel
theorem dX2_readLevel_13 : decode cX2_readLevel 13 = .ok (.if_icmp .ne 18, 3) := by decide +kernel
theorem dX2_readLevel_16 : decode cX2_readLevel 16 = .ok (.aload_n 0, 1) := by decide +kernel
theorem dX2_readLevel_17 : decode cX2_readLevel 17 = .ok (.getfield 53, 3) := by decide +kernel
theorem dX2_readLevel_20 : decode cX2_readLevel 20 = .ok (.bipush 12, 2) := by decide +kernel
theorem dX2_readLevel_22 : decode cX2_readLevel 22 = .ok (.if_icmp .ne 9, 3) := by decide +kernel
theorem dX2_readLevel_25 : decode cX2_readLevel 25 = .ok (.aload_n 0, 1) := by decide +kernel
theorem dX2_readLevel_26 : decode cX2_readLevel 26 = .ok (.iload_n 2, 1) := by decide +kernel
theorem dX2_readLevel_27 : decode cX2_readLevel 27 = .ok (.invokevirtual 194, 3) := by decide +kernel
theorem dX2_readLevel_30 : decode cX2_readLevel 30 = .ok (.return_, 1) := by decide +kernel
theorem dX2_readLevel_31 : decode cX2_readLevel 31 = .ok (.aload_n 0, 1) := by decide +kernel
theorem dX2_readLevel_32 : decode cX2_readLevel 32 = .ok (.iload_n 1, 1) := by decide +kernel
theorem dX2_readLevel_33 : decode cX2_readLevel 33 = .ok (.iconst 1, 1) := by decide +kernel
theorem dX2_readLevel_34 : decode cX2_readLevel 34 = .ok (.iadd, 1) := by decide +kernel
theorem dX2_readLevel_35 : decode cX2_readLevel 35 = .ok (.iload_n 2, 1) := by decide +kernel
theorem dX2_readLevel_36 : decode cX2_readLevel 36 = .ok (.invokevirtual 173, 3) := by decide +kernel
theorem dX2_readLevel_39 : decode cX2_readLevel 39 = .ok (.iload_n 1, 1) := by decide +kernel
theorem dX2_readLevel_40 : decode cX2_readLevel 40 = .ok (.iconst 2, 1) := by decide +kernel
theorem dX2_readLevel_41 : decode cX2_readLevel 41 = .ok (.if_icmp .ne 7, 3) := by decide +kernel
theorem dX2_readLevel_44 : decode cX2_readLevel 44 = .ok (.iconst 1, 1) := by decide +kernel
theorem dX2_readLevel_45 : decode cX2_readLevel 45 = .ok (.goto 6, 3) := by decide +kernel
theorem dX2_readLevel_48 : decode cX2_readLevel 48 = .ok (.sipush 900, 3) := by decide +kernel
theorem dX2_readLevel_51 : decode cX2_readLevel 51 = .ok (.istore_n 3, 1) := by decide +kernel
theorem dX2_readLevel_52 : decode cX2_readLevel 52 = .ok (.iconst 0, 1) := by decide +kernel
theorem dX2_readLevel_53 : decode cX2_readLevel 53 = .ok (.istore 4, 2) := by decide +kernel
theorem dX2_readLevel_55 : decode cX2_readLevel 55 = .ok (.iload 4, 2) := by decide +kernel
theorem dX2_readLevel_57 : decode cX2_readLevel 57 = .ok (.iload_n 3, 1) := by decide +kernel
theorem dX2_readLevel_58 : decode cX2_readLevel 58 = .ok (.if_icmp .ge 48, 3) := by decide +kernel
theorem dX2_readLevel_61 : decode cX2_readLevel 61 = .ok (.aload_n 0, 1) := by decide +kernel
theorem dX2_readLevel_62 : decode cX2_readLevel 62 = .ok (.getfield 53, 3) := by decide +kernel
theorem dX2_readLevel_65 : decode cX2_readLevel 65 = .ok (.invokestatic 197, 3) := by decide +kernel
theorem dX2_readLevel_68 : decode cX2_readLevel 68 = .ok (.iload_n 1, 1) := by decide +kernel
theorem dX2_readLevel_69 : decode cX2_readLevel 69 = .ok (.if_icmp .ne 37, 3) := by decide +kernel
theorem dX2_readLevel_72 : decode cX2_readLevel 72 = .ok (.aload_n 0, 1) := by decide +kernel
theorem dX2_readLevel_73 : decode cX2_readLevel 73 = .ok (.getfield 53, 3) := by decide +kernel
theorem dX2_readLevel_76 : decode cX2_readLevel 76 = .ok (.istore 5, 2) := by decide +kernel
theorem dX2_readLevel_78 : decode cX2_readLevel 78 = .ok (.aload_n 0, 1) := by decide +kernel
theorem dX2_readLevel_79 : decode cX2_readLevel 79 = .ok (.invokevirtual 50, 3) := by decide +kernel
theorem dX2_readLevel_82 : decode cX2_readLevel 82 = .ok (.aload_n 0, 1) := by decide +kernel
theorem dX2_readLevel_83 : decode cX2_readLevel 83 = .ok (.iload_n 1, 1) := by decide +kernel
theorem dX2_readLevel_84 : decode cX2_readLevel 84 = .ok (.iconst 1, 1) := by decide +kernel
theorem dX2_readLevel_85 : decode cX2_readLevel 85 = .ok (.iadd, 1) := by decide +kernel
theorem dX2_readLevel_86 : decode cX2_readLevel 86 = .ok (.iload_n 2, 1) := by decide +kernel
theorem dX2_readLevel_87 : decode cX2_readLevel 87 = .ok (.invokevirtual 173, 3) := by decide +kernel
theorem dX2_readLevel_90 : decode cX2_readLevel 90 = .ok (.aload_n 0, 1) := by decide +kernel
theorem dX2_readLevel_91 : decode cX2_readLevel 91 = .ok (.sipush 20000, 3) := by decide +kernel
theorem dX2_readLevel_94 : decode cX2_readLevel 94 = .ok (.iload 5, 2) := by decide +kernel
theorem dX2_readLevel_96 : decode cX2_readLevel 96 = .ok (.iadd, 1) := by decide +kernel
theorem dX2_readLevel_97 : decode cX2_readLevel 97 = .ok (.invokevirtual 202, 3) := by decide +kernel
theorem dX2_readLevel_100 : decode cX2_readLevel 100 = .ok (.iinc 4 1, 3) := by decide +kernel
theorem dX2_readLevel_103 : decode cX2_readLevel 103 = .ok (.goto (-48), 3) := by decide +kernel
theorem dX2_readLevel_106 : decode cX2_readLevel 106 = .ok (.return_, 1) := by decide +kernel
theorem dX2_readNot_0 : decode cX2_readNot 0 = .ok (.iload_n 1, 1) := by decide +kernel
theorem dX2_readNot_1 : decode cX2_readNot 1 = .ok (.bipush 7, 2) := by decide +kernel
theorem dX2_readNot_3 : decode cX2_readNot 3 = .ok (.if_icmp .lt 9, 3) := by decide +kernel
theorem dX2_readNot_6 : decode cX2_readNot 6 = .ok (.aload_n 0, 1) := by decide +kernel
theorem dX2_readNot_7 : decode cX2_readNot 7 = .ok (.iconst 2, 1) := by decide +kernel
theorem dX2_readNot_8 : decode cX2_readNot 8 = .ok (.invokevirtual 119, 3) := by decide +kernel
theorem dX2_readNot_11 : decode cX2_readNot 11 = .ok (.return_, 1) := by decide +kernel
theorem dX2_readNot_12 : decode cX2_readNot 12 = .ok (.aload_n 0, 1) := by decide +kernel
theorem dX2_readNot_13 : decode cX2_readNot 13 = .ok (.invokevirtual 50, 3) := by decide +kernel
theorem dX2_readNot_16 : decode cX2_readNot 16 = .ok (.aload_n 0, 1) := by decide +kernel
theorem dX2_readNot_17 : decode cX2_readNot 17 = .ok (.iconst 2, 1) := by decide +kernel
theorem dX2_readNot_18 : decode cX2_readNot 18 = .ok (.iload_n 1, 1) := by decide +kernel
theorem dX2_readNot_19 : decode cX2_readNot 19 = .ok (.iconst 1, 1) := by decide +kernel
theorem dX2_readNot_20 : decode cX2_readNot 20 = .ok (.iadd, 1) := by decide +kernel
theorem dX2_readNot_21 : decode cX2_readNot 21 = .ok (.invokevirtual 173, 3) := by decide +kernel
theorem dX2_readNot_24 : decode cX2_readNot 24 = .ok (.aload_n 0, 1) := by decide +kernel
theorem dX2_readNot_25 : decode cX2_readNot 25 = .ok (.sipush 20012, 3) := by decide +kernel
theorem dX2_readNot_28 : decode cX2_readNot 28 = .ok (.invokevirtual 202, 3) := by decide +kernel
theorem dX2_readNot_31 : decode cX2_readNot 31 = .ok (.return_, 1) := by decide +kernel
theorem dX2_readUnit_0 : decode cX2_readUnit 0 = .ok (.aload_n 0, 1) := by decide +kernel
theorem dX2_readUnit_1 : decode cX2_readUnit 1 = .ok (.getfield 38, 3) := by decide +kernel
theorem dX2_readUnit_4 : decode cX2_readUnit 4 = .ok (.bipush 80, 2) := by decide +kernel
theorem dX2_readUnit_6 : decode cX2_readUnit 6 = .ok (.if_icmp .lt 9, 3) := by decide +kernel
theorem dX2_readUnit_9 : decode cX2_readUnit 9 = .ok (.aload_n 0, 1) := by decide +kernel
theorem dX2_readUnit_10 : decode cX2_readUnit 10 = .ok (.iconst 2, 1) := by decide +kernel
theorem dX2_readUnit_11 : decode cX2_readUnit 11 = .ok (.invokevirtual 119, 3) := by decide +kernel
theorem dX2_readUnit_14 : decode cX2_readUnit 14 = .ok (.return_, 1) := by decide +kernel
theorem dX2_readUnit_15 : decode cX2_readUnit 15 = .ok (.aload_n 0, 1) := by decide +kernel
theorem dX2_readUnit_16 : decode cX2_readUnit 16 = .ok (.dup, 1) := by decide +kernel
theorem dX2_readUnit_17 : decode cX2_readUnit 17 = .ok (.getfield 38, 3) := by decide +kernel
theorem dX2_readUnit_20 : decode cX2_readUnit 20 = .ok (.iconst 1, 1) := by decide +kernel
theorem dX2_readUnit_21 : decode cX2_readUnit 21 = .ok (.iadd, 1) := by decide +kernel
theorem dX2_readUnit_22 : decode cX2_readUnit 22 = .ok (.putfield 38, 3) := by decide +kernel
theorem dX2_readUnit_25 : decode cX2_readUnit 25 = .ok (.aload_n 0, 1) := by decide +kernel
theorem dX2_readUnit_26 : decode cX2_readUnit 26 = .ok (.getfield 53, 3) := by decide +kernel
theorem dX2_readUnit_29 : decode cX2_readUnit 29 = .ok (.sipush 1000, 3) := by decide +kernel
theorem dX2_readUnit_32 : decode cX2_readUnit 32 = .ok (.if_icmp .lt 22, 3) := by decide +kernel
theorem dX2_readUnit_35 : decode cX2_readUnit 35 = .ok (.aload_n 0, 1) := by decide +kernel
theorem dX2_readUnit_36 : decode cX2_readUnit 36 = .ok (.aload_n 0, 1) := by decide +kernel
theorem dX2_readUnit_37 : decode cX2_readUnit 37 = .ok (.getfield 53, 3) := by decide +kernel
theorem dX2_readUnit_40 : decode cX2_readUnit 40 = .ok (.sipush 1000, 3) := by decide +kernel
theorem dX2_readUnit_43 : decode cX2_readUnit 43 = .ok (.isub, 1) := by decide +kernel
theorem dX2_readUnit_44 : decode cX2_readUnit 44 = .ok (.invokevirtual 202, 3) := by decide +kernel
theorem dX2_readUnit_47 : decode cX2_readUnit 47 = .ok (.aload_n 0, 1) := by decide +kernel
theorem dX2_readUnit_48 : decode cX2_readUnit 48 = .ok (.invokevirtual 50, 3) := by decide +kernel
theorem dX2_readUnit_51 : decode cX2_readUnit 51 = .ok (.goto 73, 3) := by decide +kernel
theorem dX2_readUnit_54 : decode cX2_readUnit 54 = .ok (.aload_n 0, 1) := by decide +kernel
theorem dX2_readUnit_55 : decode cX2_readUnit 55 = .ok (.getfield 53, 3) := by decide +kernel
theorem dX2_readUnit_58 : decode cX2_readUnit 58 = .ok (.bipush 23, 2) := by decide +kernel
theorem dX2_readUnit_60 : decode cX2_readUnit 60 = .ok (.if_icmp .ne 19, 3) := by decide +kernel
theorem dX2_readUnit_63 : decode cX2_readUnit 63 = .ok (.aload_n 0, 1) := by decide +kernel
theorem dX2_readUnit_64 : decode cX2_readUnit 64 = .ok (.invokevirtual 50, 3) := by decide +kernel
theorem dX2_readUnit_67 : decode cX2_readUnit 67 = .ok (.aload_n 0, 1) := by decide +kernel
theorem dX2_readUnit_68 : decode cX2_readUnit 68 = .ok (.sipush 10010, 3) := by decide +kernel
theorem dX2_readUnit_71 : decode cX2_readUnit 71 = .ok (.bipush 17, 2) := by decide +kernel
theorem dX2_readUnit_73 : decode cX2_readUnit 73 = .ok (.invokevirtual 205, 3) := by decide +kernel
theorem dX2_readUnit_76 : decode cX2_readUnit 76 = .ok (.goto 48, 3) := by decide +kernel
theorem dX2_readUnit_79 : decode cX2_readUnit 79 = .ok (.aload_n 0, 1) := by decide +kernel
theorem dX2_readUnit_80 : decode cX2_readUnit 80 = .ok (.getfield 53, 3) := by decide +kernel
theorem dX2_readUnit_83 : decode cX2_readUnit 83 = .ok (.bipush 40, 2) := by decide +kernel
theorem dX2_readUnit_85 : decode cX2_readUnit 85 = .ok (.if_icmp .ne 30, 3) := by decide +kernel
theorem dX2_readUnit_88 : decode cX2_readUnit 88 = .ok (.iload_n 1, 1) := by decide +kernel
theorem dX2_readUnit_89 : decode cX2_readUnit 89 = .ok (.bipush 7, 2) := by decide +kernel
theorem dX2_readUnit_91 : decode cX2_readUnit 91 = .ok (.if_icmp .ge 24, 3) := by decide +kernel
theorem dX2_readUnit_94 : decode cX2_readUnit 94 = .ok (.aload_n 0, 1) := by decide +kernel
theorem dX2_readUnit_95 : decode cX2_readUnit 95 = .ok (.invokevirtual 50, 3) := by decide +kernel
theorem dX2_readUnit_98 : decode cX2_readUnit 98 = .ok (.aload_n 0, 1) := by decide +kernel
theorem dX2_readUnit_99 : decode cX2_readUnit 99 = .ok (.iconst 0, 1) := by decide +kernel
theorem dX2_readUnit_100 : decode cX2_readUnit 100 = .ok (.iload_n 1, 1) := by decide +kernel
theorem dX2_readUnit_101 : decode cX2_readUnit 101 = .ok (.iconst 1, 1) := by decide +kernel
theorem dX2_readUnit_102 : decode cX2_readUnit 102 = .ok (.iadd, 1) := by decide +kernel
theorem dX2_readUnit_103 : decode cX2_readUnit 103 = .ok (.invokevirtual 173, 3) := by decide +kernel
theorem dX2_readUnit_106 : decode cX2_readUnit 106 = .ok (.aload_n 0, 1) := by decide +kernel
theorem dX2_readUnit_107 : decode cX2_readUnit 107 = .ok (.bipush 41, 2) := by decide +kernel
theorem dX2_readUnit_109 : decode cX2_readUnit 109 = .ok (.invokevirtual 163, 3) := by decide +kernel
theorem dX2_readUnit_112 : decode cX2_readUnit 112 = .ok (.goto 12, 3) := by decide +kernel
theorem dX2_readUnit_115 : decode cX2_readUnit 115 = .ok (.aload_n 0, 1) := by decide +kernel
theorem dX2_readUnit_116 : decode cX2_readUnit 116 = .ok (.sipush 10000, 3) := by decide +kernel
theorem dX2_readUnit_119 : decode cX2_readUnit 119 = .ok (.bipush 22, 2) := by decide +kernel
theorem dX2_readUnit_121 : decode cX2_readUnit 121 = .ok (.invokevirtual 205, 3) := by decide +kernel
theorem dX2_readUnit_124 : decode cX2_readUnit 124 = .ok (.return_, 1) := by decide +kernel
def f_X2_readLevel_L55 (rg : Nat → Nat → Int32 → Int32 → Hp → Option Hp) : Nat → Nat → Int32 → Int32 → Int32 → Int32 → Hp → Option ((Hp))
  | 0, _, _, _, _, _, _ => none
  | n + 1, a0, v1, v2, v3, v4, h =>
    if v3 ≤ v4 then
      some h
    else
      (getI h (some a0) 2 7).bind fun x12 =>
      b1 (f_X2_levelOf x12 h) fun x16 h14 =>
      if x16 = v1 then
        (getI h14 (some a0) 2 7).bind fun x18 =>
        (rc h14 (some a0) 2).bind fun g22 =>
        (f_X2_nextToken g22 h14).bind fun h20 =>
        (rc h20 (some a0) 2).bind fun g26 =>
        (rg 0 g26 (v1 + (1 : Int32)) v2 h20).bind fun h24 =>
        (rc h24 (some a0) 2).bind fun g30 =>
        (f_X2_putStep g30 ((20000 : Int32) + x18) h24).bind fun h28 =>
        f_X2_readLevel_L55 rg n a0 v1 v2 v3 (v4 + 1) h28
      else
        some h14
def f_X2_readLevel (rg : Nat → Nat → Int32 → Int32 → Hp → Option Hp) (a0 : Nat) (v1 : Int32) (v2 : Int32) (h : Hp) : Option (Hp) :=
  if v1 < (5 : Int32) then
    if v1 = (2 : Int32) then
      (getI h (some a0) 2 7).bind fun x35 =>
      if x35 = (12 : Int32) then
        (rc h (some a0) 2).bind fun g51 =>
        (rg 1 g51 v2 0 h).bind fun h49 =>
        some h49
      else
        (rc h (some a0) 2).bind fun g40 =>
        (rg 0 g40 (v1 + (1 : Int32)) v2 h).bind fun h38 =>
        b1 ((if v1 = (2 : Int32) then
            some (1, h38)
          else
            some (900, h38) : Option (Int32 × Hp))) fun w43 h44 =>
        (f_X2_readLevel_L55 rg fu a0 v1 v2 w43 0 h44).bind fun h46 =>
        some h46
    else
      (rc h (some a0) 2).bind fun g5 =>
      (rg 0 g5 (v1 + (1 : Int32)) v2 h).bind fun h3 =>
      b1 ((if v1 = (2 : Int32) then
          some (1, h3)
        else
          some (900, h3) : Option (Int32 × Hp))) fun w8 h9 =>
      (f_X2_readLevel_L55 rg fu a0 v1 v2 w8 0 h9).bind fun h32 =>
      some h32
  else
    (rc h (some a0) 2).bind fun g55 =>
    (rg 2 g55 v2 0 h).bind fun h53 =>
    some h53
def f_X2_readNot (rg : Nat → Nat → Int32 → Int32 → Hp → Option Hp) (a0 : Nat) (v1 : Int32) (h : Hp) : Option (Hp) :=
  if v1 < (7 : Int32) then
    (rc h (some a0) 2).bind fun g4 =>
    (f_X2_nextToken g4 h).bind fun h2 =>
    (rc h2 (some a0) 2).bind fun g8 =>
    (rg 0 g8 (2 : Int32) (v1 + (1 : Int32)) h2).bind fun h6 =>
    (rc h6 (some a0) 2).bind fun g12 =>
    (f_X2_putStep g12 (20012 : Int32) h6).bind fun h10 =>
    some h10
  else
    (rc h (some a0) 2).bind fun g16 =>
    (f_X2_refuse g16 (2 : Int32) h).bind fun h14 =>
    some h14
def f_X2_readUnit (rg : Nat → Nat → Int32 → Int32 → Hp → Option Hp) (a0 : Nat) (v1 : Int32) (h : Hp) : Option (Hp) :=
  (getI h (some a0) 2 10).bind fun x1 =>
  if x1 < (80 : Int32) then
    (getI h (some a0) 2 10).bind fun x4 =>
    (putI h (some a0) 2 10 (x4 + (1 : Int32))).bind fun h6 =>
    (getI h6 (some a0) 2 7).bind fun x8 =>
    Option.bind ((if x8 < (1000 : Int32) then
        (getI h6 (some a0) 2 7).bind fun x56 =>
        if x56 = (23 : Int32) then
          (rc h6 (some a0) 2).bind fun g85 =>
          (f_X2_nextToken g85 h6).bind fun h83 =>
          (rc h83 (some a0) 2).bind fun g89 =>
          (f_X2_readLeaf g89 (10010 : Int32) (17 : Int32) h83).bind fun h87 =>
          some h87
        else
          (getI h6 (some a0) 2 7).bind fun x59 =>
          if x59 = (40 : Int32) then
            if (7 : Int32) ≤ v1 then
              (rc h6 (some a0) 2).bind fun g69 =>
              (f_X2_readLeaf g69 (10000 : Int32) (22 : Int32) h6).bind fun h67 =>
              some h67
            else
              (rc h6 (some a0) 2).bind fun g73 =>
              (f_X2_nextToken g73 h6).bind fun h71 =>
              (rc h71 (some a0) 2).bind fun g77 =>
              (rg 0 g77 (0 : Int32) (v1 + (1 : Int32)) h71).bind fun h75 =>
              (rc h75 (some a0) 2).bind fun g81 =>
              (f_X2_take g81 (41 : Int32) h75).bind fun h79 =>
              some h79
          else
            (rc h6 (some a0) 2).bind fun g64 =>
            (f_X2_readLeaf g64 (10000 : Int32) (22 : Int32) h6).bind fun h62 =>
            some h62
      else
        (getI h6 (some a0) 2 7).bind fun x91 =>
        (rc h6 (some a0) 2).bind fun g95 =>
        (f_X2_putStep g95 (x91 - (1000 : Int32)) h6).bind fun h93 =>
        (rc h93 (some a0) 2).bind fun g99 =>
        (f_X2_nextToken g99 h93).bind fun h97 =>
        some h97 : Option (Hp))) fun h101 =>
    some h101
  else
    (rc h (some a0) 2).bind fun g105 =>
    (f_X2_refuse g105 (2 : Int32) h).bind fun h103 =>
    some h103
/-- what the three methods that call one another do, one call less deep -/
def Rg (E : En) (D : Nat) (rg : Nat → Nat → Int32 → Int32 → Hp → Option Hp) : Prop :=
  (∀ {mc ms a0 : Nat} {v1 v2 : Int32} {h h' : Hp} {K : Option Vv → Hp → Prop}, rg 0 a0 v1 v2 h = some h' → K none h' → MC E m_X2_readLevel D mc ms [vq (some a0), vi v1, vi v2] h K) ∧
  (∀ {mc ms a0 : Nat} {v1 : Int32} {h h' : Hp} {K : Option Vv → Hp → Prop}, rg 1 a0 v1 0 h = some h' → K none h' → MC E m_X2_readNot D mc ms [vq (some a0), vi v1] h K) ∧
  (∀ {mc ms a0 : Nat} {v1 : Int32} {h h' : Hp} {K : Option Vv → Hp → Prop}, rg 2 a0 v1 0 h = some h' → K none h' → MC E m_X2_readUnit D mc ms [vq (some a0), vi v1] h K)
set_option maxHeartbeats 4000000 in
theorem tl_X2_readLevel_55 (E : En) (D : Nat) (rg : Nat → Nat → Int32 → Int32 → Hp → Option Hp) (hrg : Rg E (D + 1) rg) {mc ms : Nat} {K : Option Vv → Hp → Prop} : ∀ (n : Nat) (a0 : Nat) (v1 : Int32) (v2 : Int32) (v3 : Int32) (v4 : Int32) (h : Hp) (hz : Hp), f_X2_readLevel_L55 rg n a0 v1 v2 v3 v4 h = some hz → MW E m_X2_readLevel (D + 2) mc ms 106 [none, none, none, none, none, none] [] hz K → MW E m_X2_readLevel (D + 2) mc ms 55 [some (vq (some a0)), some (vi v1), some (vi v2), some (vi v3), some (vi v4), none] [] h K := by
  intro n
  induction n with
  | zero => intro a0 v1 v2 v3 v4 h hz hf; exact nomatch (show none = some _ from hf)
  | succ n ih =>
    intro a0 v1 v2 v3 v4 h hz hf hX106
    rw [f_X2_readLevel_L55] at hf
    refine mw_iload (x := v4) dX2_readLevel_55 rfl ?_
    refine mw_iload_n (x := v3) dX2_readLevel_57 rfl ?_
    refine mw_icmp_ge (tgt := 106) dX2_readLevel_58 rfl (fun c11 => ?_) (fun c11 => ?_)
    · rw [if_pos c11] at hf
      obtain rfl := y0 hf
      exact MW.sub (subL_n (subL_n (subL_n (subL_n (subL_n (subL_n subL_nil)))))) hX106
    · rw [if_neg c11] at hf
      refine mw_aload_n (x := (some a0)) dX2_readLevel_61 rfl ?_
      obtain ⟨x12, e13, hf⟩ := ob hf
      refine ml_getI dX2_readLevel_62 fl_RX2_53 rfl e13 ?_
      obtain ⟨x16, h14, e15, hf⟩ := ob1 hf
      refine ml_callS (mc' := 0) (ms' := 0) [vi x12] dX2_readLevel_65 mk_X2_levelOf lk_RX2_197 st_X2_levelOf rfl (Nat.le_of_ble_eq_true rfl) (Nat.le_of_ble_eq_true rfl) (t_X2_levelOf E _ e15 isR_rfl) ?_
      refine mw_iload_n (x := v1) dX2_readLevel_68 rfl ?_
      refine mw_icmp_ne (tgt := 106) dX2_readLevel_69 rfl (fun c17 => ?_) (fun c17 => ?_)
      · rw [if_neg c17] at hf
        obtain rfl := y0 hf
        exact MW.sub (subL_n (subL_n (subL_n (subL_n (subL_n (subL_n subL_nil)))))) hX106
      · rw [if_pos c17] at hf
        refine mw_aload_n (x := (some a0)) dX2_readLevel_72 rfl ?_
        obtain ⟨x18, e19, hf⟩ := ob hf
        refine ml_getI dX2_readLevel_73 fl_RX2_53 rfl e19 ?_
        refine mw_istore dX2_readLevel_76 (by decide) rfl ?_
        refine mw_aload_n (x := (some a0)) dX2_readLevel_78 rfl ?_
        obtain ⟨g22, e23, hf⟩ := ob hf
        obtain ⟨h20, e21, hf⟩ := ob hf
        refine ml_callV (ci := 2) (mc' := 0) (ms' := 0) [] dX2_readLevel_79 mk_X2_nextToken lk_RX2_50 im_X2_nextToken se_X2_nextToken (by decide) e23 rfl (Nat.le_of_ble_eq_true rfl) (Nat.le_of_ble_eq_true rfl) (t_X2_nextToken E _ e21 isR_rfl) ?_
        refine mw_aload_n (x := (some a0)) dX2_readLevel_82 rfl ?_
        refine mw_iload_n (x := v1) dX2_readLevel_83 rfl ?_
        refine mw_iconst (v := 1) dX2_readLevel_84 (by decide) ?_
        refine mw_iadd dX2_readLevel_85 ?_
        refine mw_iload_n (x := v2) dX2_readLevel_86 rfl ?_
        obtain ⟨g26, e27, hf⟩ := ob hf
        obtain ⟨h24, e25, hf⟩ := ob hf
        refine ml_callV (ci := 2) (mc' := 0) (ms' := 0) [vi (v1 + (1 : Int32)), vi v2] dX2_readLevel_87 mk_X2_readLevel lk_RX2_173 im_X2_readLevel se_X2_readLevel (by decide) e27 rfl (Nat.le_of_ble_eq_true rfl) (Nat.le_of_ble_eq_true rfl) (hrg.1 e25 isR_rfl) ?_
        refine mw_aload_n (x := (some a0)) dX2_readLevel_90 rfl ?_
        refine mw_sipush (v := 20000) dX2_readLevel_91 (by decide) ?_
        refine mw_iload (x := x18) dX2_readLevel_94 rfl ?_
        refine mw_iadd dX2_readLevel_96 ?_
        obtain ⟨g30, e31, hf⟩ := ob hf
        obtain ⟨h28, e29, hf⟩ := ob hf
        refine ml_callV (ci := 2) (mc' := 0) (ms' := 0) [vi ((20000 : Int32) + x18)] dX2_readLevel_97 mk_X2_putStep lk_RX2_202 im_X2_putStep se_X2_putStep (by decide) e31 rfl (Nat.le_of_ble_eq_true rfl) (Nat.le_of_ble_eq_true rfl) (t_X2_putStep E _ e29 isR_rfl) ?_
        refine mw_iinc (x := v4) (v := v4 + 1) dX2_readLevel_100 rfl rfl (by decide) rfl ?_
        refine mw_goto (tgt := 55) dX2_readLevel_103 rfl ?_
        exact MW.sub (subL_s (subL_s (subL_s (subL_s (subL_s (subL_n subL_nil)))))) (ih _ _ _ _ _ _ _ hf hX106)
set_option maxHeartbeats 4000000 in
theorem t_X2_readLevel (E : En) (D : Nat) (rg : Nat → Nat → Int32 → Int32 → Hp → Option Hp) (hrg : Rg E (D + 1) rg) {mc ms : Nat} {a0 : Nat} {v1 : Int32} {v2 : Int32} {h h' : Hp} {K : Option Vv → Hp → Prop} (hf : f_X2_readLevel rg a0 v1 v2 h = some h') (hk : K none h') : MC E m_X2_readLevel (D + 2) mc ms [vq (some a0), vi v1, vi v2] h K := by
  unfold f_X2_readLevel at hf
  show MW E m_X2_readLevel (D + 2) mc ms 0 [some (vq (some a0)), some (vi v1), some (vi v2), none, none, none] [] h K
  refine mw_iload_n (x := v1) dX2_readLevel_0 rfl ?_
  refine mw_iconst (v := 5) dX2_readLevel_1 (by decide) ?_
  refine mw_icmp_lt (tgt := 11) dX2_readLevel_2 rfl (fun c1 => ?_) (fun c1 => ?_)
  · rw [if_pos c1] at hf
    refine mw_iload_n (x := v1) dX2_readLevel_11 rfl ?_
    refine mw_iconst (v := 2) dX2_readLevel_12 (by decide) ?_
    refine mw_icmp_ne (tgt := 31) dX2_readLevel_13 rfl (fun c2 => ?_) (fun c2 => ?_)
    · rw [if_neg c2] at hf
      refine mw_aload_n (x := (some a0)) dX2_readLevel_31 rfl ?_
      refine mw_iload_n (x := v1) dX2_readLevel_32 rfl ?_
      refine mw_iconst (v := 1) dX2_readLevel_33 (by decide) ?_
      refine mw_iadd dX2_readLevel_34 ?_
      refine mw_iload_n (x := v2) dX2_readLevel_35 rfl ?_
      obtain ⟨g5, e6, hf⟩ := ob hf
      obtain ⟨h3, e4, hf⟩ := ob hf
      refine ml_callV (ci := 2) (mc' := 0) (ms' := 0) [vi (v1 + (1 : Int32)), vi v2] dX2_readLevel_36 mk_X2_readLevel lk_RX2_173 im_X2_readLevel se_X2_readLevel (by decide) e6 rfl (Nat.le_of_ble_eq_true rfl) (Nat.le_of_ble_eq_true rfl) (hrg.1 e4 isR_rfl) ?_
      refine mw_iload_n (x := v1) dX2_readLevel_39 rfl ?_
      refine mw_iconst (v := 2) dX2_readLevel_40 (by decide) ?_
      obtain ⟨w8, h9, r10, hf⟩ := ob1 hf
      have J57 : MW E m_X2_readLevel (D + 2) mc ms 51 [some (vq (some a0)), some (vi v1), some (vi v2), none, none, none] [vi w8] h9 K := by
        refine mw_istore_n dX2_readLevel_51 (by decide) rfl ?_
        refine mw_iconst (v := 0) dX2_readLevel_52 (by decide) ?_
        refine mw_istore dX2_readLevel_53 (by decide) rfl ?_
        obtain ⟨h32, e33, hf⟩ := ob hf
        refine MW.sub (subL_s (subL_s (subL_s (subL_s (subL_s (subL_n subL_nil)))))) (tl_X2_readLevel_55 E D rg hrg _ _ _ _ _ _ _ _ e33 ?_)
        obtain rfl := y0 hf
        exact mw_return dX2_readLevel_106 rfl hk
      refine mw_icmp_ne (tgt := 48) dX2_readLevel_41 rfl (fun c7 => ?_) (fun c7 => ?_)
      · rw [if_neg c7] at r10
        refine mw_sipush (v := 900) dX2_readLevel_48 (by decide) ?_
        obtain ⟨rfl, rfl⟩ := y1 r10
        exact MW.sub (subL_s (subL_s (subL_s (subL_n (subL_n (subL_n subL_nil)))))) J57
      · rw [if_pos c7] at r10
        refine mw_iconst (v := 1) dX2_readLevel_44 (by decide) ?_
        refine mw_goto (tgt := 51) dX2_readLevel_45 rfl ?_
        obtain ⟨rfl, rfl⟩ := y1 r10
        exact MW.sub (subL_s (subL_s (subL_s (subL_n (subL_n (subL_n subL_nil)))))) J57
    · rw [if_pos c2] at hf
      refine mw_aload_n (x := (some a0)) dX2_readLevel_16 rfl ?_
      obtain ⟨x35, e36, hf⟩ := ob hf
      refine ml_getI dX2_readLevel_17 fl_RX2_53 rfl e36 ?_
      refine mw_bipush (v := 12) dX2_readLevel_20 (by decide) ?_
      refine mw_icmp_ne (tgt := 31) dX2_readLevel_22 rfl (fun c37 => ?_) (fun c37 => ?_)
      · rw [if_neg c37] at hf
        refine mw_aload_n (x := (some a0)) dX2_readLevel_31 rfl ?_
        refine mw_iload_n (x := v1) dX2_readLevel_32 rfl ?_
        refine mw_iconst (v := 1) dX2_readLevel_33 (by decide) ?_
        refine mw_iadd dX2_readLevel_34 ?_
        refine mw_iload_n (x := v2) dX2_readLevel_35 rfl ?_
        obtain ⟨g40, e41, hf⟩ := ob hf
        obtain ⟨h38, e39, hf⟩ := ob hf
        refine ml_callV (ci := 2) (mc' := 0) (ms' := 0) [vi (v1 + (1 : Int32)), vi v2] dX2_readLevel_36 mk_X2_readLevel lk_RX2_173 im_X2_readLevel se_X2_readLevel (by decide) e41 rfl (Nat.le_of_ble_eq_true rfl) (Nat.le_of_ble_eq_true rfl) (hrg.1 e39 isR_rfl) ?_
        refine mw_iload_n (x := v1) dX2_readLevel_39 rfl ?_
        refine mw_iconst (v := 2) dX2_readLevel_40 (by decide) ?_
        obtain ⟨w43, h44, r45, hf⟩ := ob1 hf
        have J58 : MW E m_X2_readLevel (D + 2) mc ms 51 [some (vq (some a0)), some (vi v1), some (vi v2), none, none, none] [vi w43] h44 K := by
          refine mw_istore_n dX2_readLevel_51 (by decide) rfl ?_
          refine mw_iconst (v := 0) dX2_readLevel_52 (by decide) ?_
          refine mw_istore dX2_readLevel_53 (by decide) rfl ?_
          obtain ⟨h46, e47, hf⟩ := ob hf
          refine MW.sub (subL_s (subL_s (subL_s (subL_s (subL_s (subL_n subL_nil)))))) (tl_X2_readLevel_55 E D rg hrg _ _ _ _ _ _ _ _ e47 ?_)
          obtain rfl := y0 hf
          exact mw_return dX2_readLevel_106 rfl hk
        refine mw_icmp_ne (tgt := 48) dX2_readLevel_41 rfl (fun c42 => ?_) (fun c42 => ?_)
        · rw [if_neg c42] at r45
          refine mw_sipush (v := 900) dX2_readLevel_48 (by decide) ?_
          obtain ⟨rfl, rfl⟩ := y1 r45
          exact MW.sub (subL_s (subL_s (subL_s (subL_n (subL_n (subL_n subL_nil)))))) J58
        · rw [if_pos c42] at r45
          refine mw_iconst (v := 1) dX2_readLevel_44 (by decide) ?_
          refine mw_goto (tgt := 51) dX2_readLevel_45 rfl ?_
          obtain ⟨rfl, rfl⟩ := y1 r45
          exact MW.sub (subL_s (subL_s (subL_s (subL_n (subL_n (subL_n subL_nil)))))) J58
      · rw [if_pos c37] at hf
        refine mw_aload_n (x := (some a0)) dX2_readLevel_25 rfl ?_
        refine mw_iload_n (x := v2) dX2_readLevel_26 rfl ?_
        obtain ⟨g51, e52, hf⟩ := ob hf
        obtain ⟨h49, e50, hf⟩ := ob hf
        refine ml_callV (ci := 2) (mc' := 0) (ms' := 0) [vi v2] dX2_readLevel_27 mk_X2_readNot lk_RX2_194 im_X2_readNot se_X2_readNot (by decide) e52 rfl (Nat.le_of_ble_eq_true rfl) (Nat.le_of_ble_eq_true rfl) (hrg.2.1 e50 isR_rfl) ?_
        obtain rfl := y0 hf
        exact mw_return dX2_readLevel_30 rfl hk
  · rw [if_neg c1] at hf
    refine mw_aload_n (x := (some a0)) dX2_readLevel_5 rfl ?_
    refine mw_iload_n (x := v2) dX2_readLevel_6 rfl ?_
    obtain ⟨g55, e56, hf⟩ := ob hf
    obtain ⟨h53, e54, hf⟩ := ob hf
    refine ml_callV (ci := 2) (mc' := 0) (ms' := 0) [vi v2] dX2_readLevel_7 mk_X2_readUnit lk_RX2_191 im_X2_readUnit se_X2_readUnit (by decide) e56 rfl (Nat.le_of_ble_eq_true rfl) (Nat.le_of_ble_eq_true rfl) (hrg.2.2 e54 isR_rfl) ?_
    obtain rfl := y0 hf
    exact mw_return dX2_readLevel_10 rfl hk
set_option maxHeartbeats 4000000 in
theorem t_X2_readNot (E : En) (D : Nat) (rg : Nat → Nat → Int32 → Int32 → Hp → Option Hp) (hrg : Rg E (D + 1) rg) {mc ms : Nat} {a0 : Nat} {v1 : Int32} {h h' : Hp} {K : Option Vv → Hp → Prop} (hf : f_X2_readNot rg a0 v1 h = some h') (hk : K none h') : MC E m_X2_readNot (D + 2) mc ms [vq (some a0), vi v1] h K := by
  unfold f_X2_readNot at hf
  show MW E m_X2_readNot (D + 2) mc ms 0 [some (vq (some a0)), some (vi v1)] [] h K
  refine mw_iload_n (x := v1) dX2_readNot_0 rfl ?_
  refine mw_bipush (v := 7) dX2_readNot_1 (by decide) ?_
  refine mw_icmp_lt (tgt := 12) dX2_readNot_3 rfl (fun c1 => ?_) (fun c1 => ?_)
  · rw [if_pos c1] at hf
    refine mw_aload_n (x := (some a0)) dX2_readNot_12 rfl ?_
    obtain ⟨g4, e5, hf⟩ := ob hf
    obtain ⟨h2, e3, hf⟩ := ob hf
    refine ml_callV (ci := 2) (mc' := 0) (ms' := 0) [] dX2_readNot_13 mk_X2_nextToken lk_RX2_50 im_X2_nextToken se_X2_nextToken (by decide) e5 rfl (Nat.le_of_ble_eq_true rfl) (Nat.le_of_ble_eq_true rfl) (t_X2_nextToken E _ e3 isR_rfl) ?_
    refine mw_aload_n (x := (some a0)) dX2_readNot_16 rfl ?_
    refine mw_iconst (v := 2) dX2_readNot_17 (by decide) ?_
    refine mw_iload_n (x := v1) dX2_readNot_18 rfl ?_
    refine mw_iconst (v := 1) dX2_readNot_19 (by decide) ?_
    refine mw_iadd dX2_readNot_20 ?_
    obtain ⟨g8, e9, hf⟩ := ob hf
    obtain ⟨h6, e7, hf⟩ := ob hf
    refine ml_callV (ci := 2) (mc' := 0) (ms' := 0) [vi (2 : Int32), vi (v1 + (1 : Int32))] dX2_readNot_21 mk_X2_readLevel lk_RX2_173 im_X2_readLevel se_X2_readLevel (by decide) e9 rfl (Nat.le_of_ble_eq_true rfl) (Nat.le_of_ble_eq_true rfl) (hrg.1 e7 isR_rfl) ?_
    refine mw_aload_n (x := (some a0)) dX2_readNot_24 rfl ?_
    refine mw_sipush (v := 20012) dX2_readNot_25 (by decide) ?_
    obtain ⟨g12, e13, hf⟩ := ob hf
    obtain ⟨h10, e11, hf⟩ := ob hf
    refine ml_callV (ci := 2) (mc' := 0) (ms' := 0) [vi (20012 : Int32)] dX2_readNot_28 mk_X2_putStep lk_RX2_202 im_X2_putStep se_X2_putStep (by decide) e13 rfl (Nat.le_of_ble_eq_true rfl) (Nat.le_of_ble_eq_true rfl) (t_X2_putStep E _ e11 isR_rfl) ?_
    obtain rfl := y0 hf
    exact mw_return dX2_readNot_31 rfl hk
  · rw [if_neg c1] at hf
    refine mw_aload_n (x := (some a0)) dX2_readNot_6 rfl ?_
    refine mw_iconst (v := 2) dX2_readNot_7 (by decide) ?_
    obtain ⟨g16, e17, hf⟩ := ob hf
    obtain ⟨h14, e15, hf⟩ := ob hf
    refine ml_callV (ci := 2) (mc' := 0) (ms' := 0) [vi (2 : Int32)] dX2_readNot_8 mk_X2_refuse lk_RX2_119 im_X2_refuse se_X2_refuse (by decide) e17 rfl (Nat.le_of_ble_eq_true rfl) (Nat.le_of_ble_eq_true rfl) (t_X2_refuse E _ e15 isR_rfl) ?_
    obtain rfl := y0 hf
    exact mw_return dX2_readNot_11 rfl hk
set_option maxHeartbeats 4000000 in
theorem t_X2_readUnit (E : En) (D : Nat) (rg : Nat → Nat → Int32 → Int32 → Hp → Option Hp) (hrg : Rg E (D + 1) rg) {mc ms : Nat} {a0 : Nat} {v1 : Int32} {h h' : Hp} {K : Option Vv → Hp → Prop} (hf : f_X2_readUnit rg a0 v1 h = some h') (hk : K none h') : MC E m_X2_readUnit (D + 2) mc ms [vq (some a0), vi v1] h K := by
  unfold f_X2_readUnit at hf
  show MW E m_X2_readUnit (D + 2) mc ms 0 [some (vq (some a0)), some (vi v1)] [] h K
  refine mw_aload_n (x := (some a0)) dX2_readUnit_0 rfl ?_
  obtain ⟨x1, e2, hf⟩ := ob hf
  refine ml_getI dX2_readUnit_1 fl_RX2_38 rfl e2 ?_
  refine mw_bipush (v := 80) dX2_readUnit_4 (by decide) ?_
  refine mw_icmp_lt (tgt := 15) dX2_readUnit_6 rfl (fun c3 => ?_) (fun c3 => ?_)
  · rw [if_pos c3] at hf
    refine mw_aload_n (x := (some a0)) dX2_readUnit_15 rfl ?_
    refine mw_dupq dX2_readUnit_16 ?_
    obtain ⟨x4, e5, hf⟩ := ob hf
    refine ml_getI dX2_readUnit_17 fl_RX2_38 rfl e5 ?_
    refine mw_iconst (v := 1) dX2_readUnit_20 (by decide) ?_
    refine mw_iadd dX2_readUnit_21 ?_
    obtain ⟨h6, e7, hf⟩ := ob hf
    refine ml_putI dX2_readUnit_22 fl_RX2_38 (Or.inl rfl) rfl rfl e7 ?_
    refine mw_aload_n (x := (some a0)) dX2_readUnit_25 rfl ?_
    obtain ⟨x8, e9, hf⟩ := ob hf
    refine ml_getI dX2_readUnit_26 fl_RX2_53 rfl e9 ?_
    refine mw_sipush (v := 1000) dX2_readUnit_29 (by decide) ?_
    obtain ⟨h101, r102, hf⟩ := ob hf
    have J107 : MW E m_X2_readUnit (D + 2) mc ms 124 [none, none] [] h101 K := by
      obtain rfl := y0 hf
      exact mw_return dX2_readUnit_124 rfl hk
    refine mw_icmp_lt (tgt := 54) dX2_readUnit_32 rfl (fun c10 => ?_) (fun c10 => ?_)
    · rw [if_pos c10] at r102
      refine mw_aload_n (x := (some a0)) dX2_readUnit_54 rfl ?_
      obtain ⟨x56, e57, r102⟩ := ob r102
      refine ml_getI dX2_readUnit_55 fl_RX2_53 rfl e57 ?_
      refine mw_bipush (v := 23) dX2_readUnit_58 (by decide) ?_
      refine mw_icmp_ne (tgt := 79) dX2_readUnit_60 rfl (fun c58 => ?_) (fun c58 => ?_)
      · rw [if_neg c58] at r102
        refine mw_aload_n (x := (some a0)) dX2_readUnit_79 rfl ?_
        obtain ⟨x59, e60, r102⟩ := ob r102
        refine ml_getI dX2_readUnit_80 fl_RX2_53 rfl e60 ?_
        refine mw_bipush (v := 40) dX2_readUnit_83 (by decide) ?_
        refine mw_icmp_ne (tgt := 115) dX2_readUnit_85 rfl (fun c61 => ?_) (fun c61 => ?_)
        · rw [if_neg c61] at r102
          refine mw_aload_n (x := (some a0)) dX2_readUnit_115 rfl ?_
          refine mw_sipush (v := 10000) dX2_readUnit_116 (by decide) ?_
          refine mw_bipush (v := 22) dX2_readUnit_119 (by decide) ?_
          obtain ⟨g64, e65, r102⟩ := ob r102
          obtain ⟨h62, e63, r102⟩ := ob r102
          refine ml_callV (ci := 2) (mc' := 0) (ms' := 0) [vi (10000 : Int32), vi (22 : Int32)] dX2_readUnit_121 mk_X2_readLeaf lk_RX2_205 im_X2_readLeaf se_X2_readLeaf (by decide) e65 rfl (Nat.le_of_ble_eq_true rfl) (Nat.le_of_ble_eq_true rfl) (t_X2_readLeaf E _ e63 isR_rfl) ?_
          obtain rfl := y0 r102
          exact MW.sub (subL_n (subL_n subL_nil)) J107
        · rw [if_pos c61] at r102
          refine mw_iload_n (x := v1) dX2_readUnit_88 rfl ?_
          refine mw_bipush (v := 7) dX2_readUnit_89 (by decide) ?_
          refine mw_icmp_ge (tgt := 115) dX2_readUnit_91 rfl (fun c66 => ?_) (fun c66 => ?_)
          · rw [if_pos c66] at r102
            refine mw_aload_n (x := (some a0)) dX2_readUnit_115 rfl ?_
            refine mw_sipush (v := 10000) dX2_readUnit_116 (by decide) ?_
            refine mw_bipush (v := 22) dX2_readUnit_119 (by decide) ?_
            obtain ⟨g69, e70, r102⟩ := ob r102
            obtain ⟨h67, e68, r102⟩ := ob r102
            refine ml_callV (ci := 2) (mc' := 0) (ms' := 0) [vi (10000 : Int32), vi (22 : Int32)] dX2_readUnit_121 mk_X2_readLeaf lk_RX2_205 im_X2_readLeaf se_X2_readLeaf (by decide) e70 rfl (Nat.le_of_ble_eq_true rfl) (Nat.le_of_ble_eq_true rfl) (t_X2_readLeaf E _ e68 isR_rfl) ?_
            obtain rfl := y0 r102
            exact MW.sub (subL_n (subL_n subL_nil)) J107
          · rw [if_neg c66] at r102
            refine mw_aload_n (x := (some a0)) dX2_readUnit_94 rfl ?_
            obtain ⟨g73, e74, r102⟩ := ob r102
            obtain ⟨h71, e72, r102⟩ := ob r102
            refine ml_callV (ci := 2) (mc' := 0) (ms' := 0) [] dX2_readUnit_95 mk_X2_nextToken lk_RX2_50 im_X2_nextToken se_X2_nextToken (by decide) e74 rfl (Nat.le_of_ble_eq_true rfl) (Nat.le_of_ble_eq_true rfl) (t_X2_nextToken E _ e72 isR_rfl) ?_
            refine mw_aload_n (x := (some a0)) dX2_readUnit_98 rfl ?_
            refine mw_iconst (v := 0) dX2_readUnit_99 (by decide) ?_
            refine mw_iload_n (x := v1) dX2_readUnit_100 rfl ?_
            refine mw_iconst (v := 1) dX2_readUnit_101 (by decide) ?_
            refine mw_iadd dX2_readUnit_102 ?_
            obtain ⟨g77, e78, r102⟩ := ob r102
            obtain ⟨h75, e76, r102⟩ := ob r102
            refine ml_callV (ci := 2) (mc' := 0) (ms' := 0) [vi (0 : Int32), vi (v1 + (1 : Int32))] dX2_readUnit_103 mk_X2_readLevel lk_RX2_173 im_X2_readLevel se_X2_readLevel (by decide) e78 rfl (Nat.le_of_ble_eq_true rfl) (Nat.le_of_ble_eq_true rfl) (hrg.1 e76 isR_rfl) ?_
            refine mw_aload_n (x := (some a0)) dX2_readUnit_106 rfl ?_
            refine mw_bipush (v := 41) dX2_readUnit_107 (by decide) ?_
            obtain ⟨g81, e82, r102⟩ := ob r102
            obtain ⟨h79, e80, r102⟩ := ob r102
            refine ml_callV (ci := 2) (mc' := 0) (ms' := 0) [vi (41 : Int32)] dX2_readUnit_109 mk_X2_take lk_RX2_163 im_X2_take se_X2_take (by decide) e82 rfl (Nat.le_of_ble_eq_true rfl) (Nat.le_of_ble_eq_true rfl) (t_X2_take E _ e80 isR_rfl) ?_
            refine mw_goto (tgt := 124) dX2_readUnit_112 rfl ?_
            obtain rfl := y0 r102
            exact MW.sub (subL_n (subL_n subL_nil)) J107
      · rw [if_pos c58] at r102
        refine mw_aload_n (x := (some a0)) dX2_readUnit_63 rfl ?_
        obtain ⟨g85, e86, r102⟩ := ob r102
        obtain ⟨h83, e84, r102⟩ := ob r102
        refine ml_callV (ci := 2) (mc' := 0) (ms' := 0) [] dX2_readUnit_64 mk_X2_nextToken lk_RX2_50 im_X2_nextToken se_X2_nextToken (by decide) e86 rfl (Nat.le_of_ble_eq_true rfl) (Nat.le_of_ble_eq_true rfl) (t_X2_nextToken E _ e84 isR_rfl) ?_
        refine mw_aload_n (x := (some a0)) dX2_readUnit_67 rfl ?_
        refine mw_sipush (v := 10010) dX2_readUnit_68 (by decide) ?_
        refine mw_bipush (v := 17) dX2_readUnit_71 (by decide) ?_
        obtain ⟨g89, e90, r102⟩ := ob r102
        obtain ⟨h87, e88, r102⟩ := ob r102
        refine ml_callV (ci := 2) (mc' := 0) (ms' := 0) [vi (10010 : Int32), vi (17 : Int32)] dX2_readUnit_73 mk_X2_readLeaf lk_RX2_205 im_X2_readLeaf se_X2_readLeaf (by decide) e90 rfl (Nat.le_of_ble_eq_true rfl) (Nat.le_of_ble_eq_true rfl) (t_X2_readLeaf E _ e88 isR_rfl) ?_
        refine mw_goto (tgt := 124) dX2_readUnit_76 rfl ?_
        obtain rfl := y0 r102
        exact MW.sub (subL_n (subL_n subL_nil)) J107
    · rw [if_neg c10] at r102
      refine mw_aload_n (x := (some a0)) dX2_readUnit_35 rfl ?_
      refine mw_aload_n (x := (some a0)) dX2_readUnit_36 rfl ?_
      obtain ⟨x91, e92, r102⟩ := ob r102
      refine ml_getI dX2_readUnit_37 fl_RX2_53 rfl e92 ?_
      refine mw_sipush (v := 1000) dX2_readUnit_40 (by decide) ?_
      refine mw_isub dX2_readUnit_43 ?_
      obtain ⟨g95, e96, r102⟩ := ob r102
      obtain ⟨h93, e94, r102⟩ := ob r102
      refine ml_callV (ci := 2) (mc' := 0) (ms' := 0) [vi (x91 - (1000 : Int32))] dX2_readUnit_44 mk_X2_putStep lk_RX2_202 im_X2_putStep se_X2_putStep (by decide) e96 rfl (Nat.le_of_ble_eq_true rfl) (Nat.le_of_ble_eq_true rfl) (t_X2_putStep E _ e94 isR_rfl) ?_
      refine mw_aload_n (x := (some a0)) dX2_readUnit_47 rfl ?_
      obtain ⟨g99, e100, r102⟩ := ob r102
      obtain ⟨h97, e98, r102⟩ := ob r102
      refine ml_callV (ci := 2) (mc' := 0) (ms' := 0) [] dX2_readUnit_48 mk_X2_nextToken lk_RX2_50 im_X2_nextToken se_X2_nextToken (by decide) e100 rfl (Nat.le_of_ble_eq_true rfl) (Nat.le_of_ble_eq_true rfl) (t_X2_nextToken E _ e98 isR_rfl) ?_
      refine mw_goto (tgt := 124) dX2_readUnit_51 rfl ?_
      obtain rfl := y0 r102
      exact MW.sub (subL_n (subL_n subL_nil)) J107
  · rw [if_neg c3] at hf
    refine mw_aload_n (x := (some a0)) dX2_readUnit_9 rfl ?_
    refine mw_iconst (v := 2) dX2_readUnit_10 (by decide) ?_
    obtain ⟨g105, e106, hf⟩ := ob hf
    obtain ⟨h103, e104, hf⟩ := ob hf
    refine ml_callV (ci := 2) (mc' := 0) (ms' := 0) [vi (2 : Int32)] dX2_readUnit_11 mk_X2_refuse lk_RX2_119 im_X2_refuse se_X2_refuse (by decide) e106 rfl (Nat.le_of_ble_eq_true rfl) (Nat.le_of_ble_eq_true rfl) (t_X2_refuse E _ e104 isR_rfl) ?_
    obtain rfl := y0 hf
    exact mw_return dX2_readUnit_14 rfl hk
def f_rg : Nat → Nat → Nat → Int32 → Int32 → Hp → Option Hp
  | 0, _, _, _, _, _ => none
  | n + 1, t, a0, v1, v2, h => if t = 0 then f_X2_readLevel (f_rg n) a0 v1 v2 h else if t = 1 then f_X2_readNot (f_rg n) a0 v1 h else f_X2_readUnit (f_rg n) a0 v1 h
theorem Rg_all (E : En) : ∀ n d : Nat, Rg E (d + n + 1) (f_rg n) := by
  intro n
  induction n with
  | zero =>
    intro d
    refine ⟨fun hf hk => ?_, fun hf hk => ?_, fun hf hk => ?_⟩
    · exact nomatch (show none = some _ from hf)
    · exact nomatch (show none = some _ from hf)
    · exact nomatch (show none = some _ from hf)
  | succ n ih =>
    intro d
    refine ⟨fun hf hk => ?_, fun hf hk => ?_, fun hf hk => ?_⟩
    · rw [f_rg, if_pos rfl] at hf
      exact t_X2_readLevel E (d + n) (f_rg n) (ih d) hf hk
    · rw [f_rg, if_neg (by decide), if_pos rfl] at hf
      exact t_X2_readNot E (d + n) (f_rg n) (ih d) hf hk
    · rw [f_rg, if_neg (by decide), if_neg (by decide)] at hf
      exact t_X2_readUnit E (d + n) (f_rg n) (ih d) hf hk
theorem dX2_takeWhen_0 : decode cX2_takeWhen 0 = .ok (.aload_n 0, 1) := by decide +kernel
theorem dX2_takeWhen_1 : decode cX2_takeWhen 1 = .ok (.bipush 9, 2) := by decide +kernel
theorem dX2_takeWhen_3 : decode cX2_takeWhen 3 = .ok (.invokevirtual 163, 3) := by decide +kernel
theorem dX2_takeWhen_6 : decode cX2_takeWhen 6 = .ok (.aload_n 0, 1) := by decide +kernel
theorem dX2_takeWhen_7 : decode cX2_takeWhen 7 = .ok (.iconst 0, 1) := by decide +kernel
theorem dX2_takeWhen_8 : decode cX2_takeWhen 8 = .ok (.putfield 170, 3) := by decide +kernel
theorem dX2_takeWhen_11 : decode cX2_takeWhen 11 = .ok (.aload_n 0, 1) := by decide +kernel
theorem dX2_takeWhen_12 : decode cX2_takeWhen 12 = .ok (.iconst 0, 1) := by decide +kernel
theorem dX2_takeWhen_13 : decode cX2_takeWhen 13 = .ok (.iconst 0, 1) := by decide +kernel
theorem dX2_takeWhen_14 : decode cX2_takeWhen 14 = .ok (.invokevirtual 173, 3) := by decide +kernel
theorem dX2_takeWhen_17 : decode cX2_takeWhen 17 = .ok (.aload_n 0, 1) := by decide +kernel
theorem dX2_takeWhen_18 : decode cX2_takeWhen 18 = .ok (.bipush 59, 2) := by decide +kernel
theorem dX2_takeWhen_20 : decode cX2_takeWhen 20 = .ok (.invokevirtual 163, 3) := by decide +kernel
theorem dX2_takeWhen_23 : decode cX2_takeWhen 23 = .ok (.aload_n 0, 1) := by decide +kernel
theorem dX2_takeWhen_24 : decode cX2_takeWhen 24 = .ok (.getfield 22, 3) := by decide +kernel
theorem dX2_takeWhen_27 : decode cX2_takeWhen 27 = .ok (.iconst 0, 1) := by decide +kernel
theorem dX2_takeWhen_28 : decode cX2_takeWhen 28 = .ok (.aload_n 0, 1) := by decide +kernel
theorem dX2_takeWhen_29 : decode cX2_takeWhen 29 = .ok (.getfield 170, 3) := by decide +kernel
theorem dX2_takeWhen_32 : decode cX2_takeWhen 32 = .ok (.aload_n 0, 1) := by decide +kernel
theorem dX2_takeWhen_33 : decode cX2_takeWhen 33 = .ok (.getfield 22, 3) := by decide +kernel
theorem dX2_takeWhen_36 : decode cX2_takeWhen 36 = .ok (.arraylength, 1) := by decide +kernel
theorem dX2_takeWhen_37 : decode cX2_takeWhen 37 = .ok (.invokestatic 177, 3) := by decide +kernel
theorem dX2_takeWhen_40 : decode cX2_takeWhen 40 = .ok (.invokestatic 182, 3) := by decide +kernel
theorem dX2_takeWhen_43 : decode cX2_takeWhen 43 = .ok (.invokestatic 185, 3) := by decide +kernel
theorem dX2_takeWhen_46 : decode cX2_takeWhen 46 = .ok (.areturn, 1) := by decide +kernel
theorem dX2_readCounts_0 : decode cX2_readCounts 0 = .ok (.aload_n 1, 1) := by decide +kernel
theorem dX2_readCounts_1 : decode cX2_readCounts 1 = .ok (.getfield 116, 3) := by decide +kernel
theorem dX2_readCounts_4 : decode cX2_readCounts 4 = .ok (.bipush 10, 2) := by decide +kernel
theorem dX2_readCounts_6 : decode cX2_readCounts 6 = .ok (.if_icmp .lt 9, 3) := by decide +kernel
theorem dX2_readCounts_9 : decode cX2_readCounts 9 = .ok (.aload_n 0, 1) := by decide +kernel
theorem dX2_readCounts_10 : decode cX2_readCounts 10 = .ok (.iconst 2, 1) := by decide +kernel
theorem dX2_readCounts_11 : decode cX2_readCounts 11 = .ok (.invokevirtual 119, 3) := by decide +kernel
theorem dX2_readCounts_14 : decode cX2_readCounts 14 = .ok (.return_, 1) := by decide +kernel
theorem dX2_readCounts_15 : decode cX2_readCounts 15 = .ok (.aload_n 0, 1) := by decide +kernel
theorem dX2_readCounts_16 : decode cX2_readCounts 16 = .ok (.invokevirtual 50, 3) := by decide +kernel
theorem dX2_readCounts_19 : decode cX2_readCounts 19 = .ok (.aload_n 0, 1) := by decide +kernel
theorem dX2_readCounts_20 : decode cX2_readCounts 20 = .ok (.invokevirtual 123, 3) := by decide +kernel
theorem dX2_readCounts_23 : decode cX2_readCounts 23 = .ok (.istore_n 2, 1) := by decide +kernel
theorem dX2_readCounts_24 : decode cX2_readCounts 24 = .ok (.aload_n 0, 1) := by decide +kernel
theorem dX2_readCounts_25 : decode cX2_readCounts 25 = .ok (.iconst 0, 1) := by decide +kernel
theorem dX2_readCounts_26 : decode cX2_readCounts 26 = .ok (.bipush 100, 2) := by decide +kernel
theorem dX2_readCounts_28 : decode cX2_readCounts 28 = .ok (.invokevirtual 126, 3) := by decide +kernel
theorem dX2_readCounts_31 : decode cX2_readCounts 31 = .ok (.istore_n 3, 1) := by decide +kernel
theorem dX2_readCounts_32 : decode cX2_readCounts 32 = .ok (.aload_n 1, 1) := by decide +kernel
theorem dX2_readCounts_33 : decode cX2_readCounts 33 = .ok (.new 130, 3) := by decide +kernel
theorem dX2_readCounts_36 : decode cX2_readCounts 36 = .ok (.dup, 1) := by decide +kernel
theorem dX2_readCounts_37 : decode cX2_readCounts 37 = .ok (.iload_n 2, 1) := by decide +kernel
theorem dX2_readCounts_38 : decode cX2_readCounts 38 = .ok (.iload_n 3, 1) := by decide +kernel
theorem dX2_readCounts_39 : decode cX2_readCounts 39 = .ok (.aload_n 0, 1) := by decide +kernel
theorem dX2_readCounts_40 : decode cX2_readCounts 40 = .ok (.invokevirtual 132, 3) := by decide +kernel
theorem dX2_readCounts_43 : decode cX2_readCounts 43 = .ok (.invokespecial 136, 3) := by decide +kernel
theorem dX2_readCounts_46 : decode cX2_readCounts 46 = .ok (.invokevirtual 139, 3) := by decide +kernel
theorem dX2_readCounts_49 : decode cX2_readCounts 49 = .ok (.return_, 1) := by decide +kernel
theorem dX2_readOnce_0 : decode cX2_readOnce 0 = .ok (.aload_n 0, 1) := by decide +kernel
theorem dX2_readOnce_1 : decode cX2_readOnce 1 = .ok (.getfield 53, 3) := by decide +kernel
theorem dX2_readOnce_4 : decode cX2_readOnce 4 = .ok (.istore_n 2, 1) := by decide +kernel
theorem dX2_readOnce_5 : decode cX2_readOnce 5 = .ok (.iload_n 2, 1) := by decide +kernel
theorem dX2_readOnce_6 : decode cX2_readOnce 6 = .ok (.iconst 1, 1) := by decide +kernel
theorem dX2_readOnce_7 : decode cX2_readOnce 7 = .ok (.if_icmp .lt 20, 3) := by decide +kernel
theorem dX2_readOnce_10 : decode cX2_readOnce 10 = .ok (.iload_n 2, 1) := by decide +kernel
theorem dX2_readOnce_11 : decode cX2_readOnce 11 = .ok (.bipush 8, 2) := by decide +kernel
theorem dX2_readOnce_13 : decode cX2_readOnce 13 = .ok (.if_icmp .gt 14, 3) := by decide +kernel
theorem dX2_readOnce_16 : decode cX2_readOnce 16 = .ok (.aload_n 0, 1) := by decide +kernel
theorem dX2_readOnce_17 : decode cX2_readOnce 17 = .ok (.getfield 41, 3) := by decide +kernel
theorem dX2_readOnce_20 : decode cX2_readOnce 20 = .ok (.iload_n 2, 1) := by decide +kernel
theorem dX2_readOnce_21 : decode cX2_readOnce 21 = .ok (.ishr, 1) := by decide +kernel
theorem dX2_readOnce_22 : decode cX2_readOnce 22 = .ok (.iconst 1, 1) := by decide +kernel
theorem dX2_readOnce_23 : decode cX2_readOnce 23 = .ok (.iand, 1) := by decide +kernel
theorem dX2_readOnce_24 : decode cX2_readOnce 24 = .ok (.ifCond .eq 9, 3) := by decide +kernel
theorem dX2_readOnce_27 : decode cX2_readOnce 27 = .ok (.aload_n 0, 1) := by decide +kernel
theorem dX2_readOnce_28 : decode cX2_readOnce 28 = .ok (.iconst 2, 1) := by decide +kernel
theorem dX2_readOnce_29 : decode cX2_readOnce 29 = .ok (.invokevirtual 119, 3) := by decide +kernel
theorem dX2_readOnce_32 : decode cX2_readOnce 32 = .ok (.return_, 1) := by decide +kernel
theorem dX2_readOnce_33 : decode cX2_readOnce 33 = .ok (.aload_n 0, 1) := by decide +kernel
theorem dX2_readOnce_34 : decode cX2_readOnce 34 = .ok (.dup, 1) := by decide +kernel
theorem dX2_readOnce_35 : decode cX2_readOnce 35 = .ok (.getfield 41, 3) := by decide +kernel
theorem dX2_readOnce_38 : decode cX2_readOnce 38 = .ok (.iconst 1, 1) := by decide +kernel
theorem dX2_readOnce_39 : decode cX2_readOnce 39 = .ok (.iload_n 2, 1) := by decide +kernel
theorem dX2_readOnce_40 : decode cX2_readOnce 40 = .ok (.ishl, 1) := by decide +kernel
theorem dX2_readOnce_41 : decode cX2_readOnce 41 = .ok (.ior, 1) := by decide +kernel
theorem dX2_readOnce_42 : decode cX2_readOnce 42 = .ok (.putfield 41, 3) := by decide +kernel
theorem dX2_readOnce_45 : decode cX2_readOnce 45 = .ok (.aload_n 0, 1) := by decide +kernel
theorem dX2_readOnce_46 : decode cX2_readOnce 46 = .ok (.invokevirtual 50, 3) := by decide +kernel
theorem dX2_readOnce_49 : decode cX2_readOnce 49 = .ok (.iload_n 2, 1) := by decide +kernel
theorem dX2_readOnce_50 : decode cX2_readOnce 50 = .ok (.iconst 1, 1) := by decide +kernel
theorem dX2_readOnce_51 : decode cX2_readOnce 51 = .ok (.if_icmp .ne 17, 3) := by decide +kernel
theorem dX2_readOnce_54 : decode cX2_readOnce 54 = .ok (.aload_n 1, 1) := by decide +kernel
theorem dX2_readOnce_55 : decode cX2_readOnce 55 = .ok (.aload_n 0, 1) := by decide +kernel
theorem dX2_readOnce_56 : decode cX2_readOnce 56 = .ok (.invokevirtual 132, 3) := by decide +kernel
theorem dX2_readOnce_59 : decode cX2_readOnce 59 = .ok (.putfield 143, 3) := by decide +kernel
theorem dX2_readOnce_62 : decode cX2_readOnce 62 = .ok (.aload_n 1, 1) := by decide +kernel
theorem dX2_readOnce_63 : decode cX2_readOnce 63 = .ok (.iconst 1, 1) := by decide +kernel
theorem dX2_readOnce_64 : decode cX2_readOnce 64 = .ok (.putfield 146, 3) := by decide +kernel
theorem dX2_readOnce_67 : decode cX2_readOnce 67 = .ok (.return_, 1) := by decide +kernel
theorem dX2_readOnce_68 : decode cX2_readOnce 68 = .ok (.iload_n 2, 1) := by decide +kernel
theorem dX2_readOnce_69 : decode cX2_readOnce 69 = .ok (.iconst 2, 1) := by decide +kernel
theorem dX2_readOnce_70 : decode cX2_readOnce 70 = .ok (.isub, 1) := by decide +kernel
theorem dX2_readOnce_71 : decode cX2_readOnce 71 = .ok (.istore_n 3, 1) := by decide +kernel
theorem dX2_readOnce_72 : decode cX2_readOnce 72 = .ok (.aload_n 0, 1) := by decide +kernel
theorem dX2_readOnce_73 : decode cX2_readOnce 73 = .ok (.getstatic 150, 3) := by decide +kernel
theorem dX2_readOnce_76 : decode cX2_readOnce 76 = .ok (.iload_n 3, 1) := by decide +kernel
theorem dX2_readOnce_77 : decode cX2_readOnce 77 = .ok (.invokestatic 153, 3) := by decide +kernel
theorem dX2_readOnce_80 : decode cX2_readOnce 80 = .ok (.getstatic 157, 3) := by decide +kernel
theorem dX2_readOnce_83 : decode cX2_readOnce 83 = .ok (.iload_n 3, 1) := by decide +kernel
theorem dX2_readOnce_84 : decode cX2_readOnce 84 = .ok (.invokestatic 153, 3) := by decide +kernel
theorem dX2_readOnce_87 : decode cX2_readOnce 87 = .ok (.invokevirtual 126, 3) := by decide +kernel
theorem dX2_readOnce_90 : decode cX2_readOnce 90 = .ok (.istore 4, 2) := by decide +kernel
theorem dX2_readOnce_92 : decode cX2_readOnce 92 = .ok (.iload_n 3, 1) := by decide +kernel
theorem dX2_readOnce_93 : decode cX2_readOnce 93 = .ok (.ifCond .lt 20, 3) := by decide +kernel
theorem dX2_readOnce_96 : decode cX2_readOnce 96 = .ok (.iload_n 3, 1) := by decide +kernel
theorem dX2_readOnce_97 : decode cX2_readOnce 97 = .ok (.aload_n 1, 1) := by decide +kernel
theorem dX2_readOnce_98 : decode cX2_readOnce 98 = .ok (.getfield 160, 3) := by decide +kernel
theorem dX2_readOnce_101 : decode cX2_readOnce 101 = .ok (.arraylength, 1) := by decide +kernel
theorem dX2_readOnce_102 : decode cX2_readOnce 102 = .ok (.if_icmp .ge 11, 3) := by decide +kernel
theorem dX2_readOnce_105 : decode cX2_readOnce 105 = .ok (.aload_n 1, 1) := by decide +kernel
theorem dX2_readOnce_106 : decode cX2_readOnce 106 = .ok (.getfield 160, 3) := by decide +kernel
theorem dX2_readOnce_109 : decode cX2_readOnce 109 = .ok (.iload_n 3, 1) := by decide +kernel
theorem dX2_readOnce_110 : decode cX2_readOnce 110 = .ok (.iload 4, 2) := by decide +kernel
theorem dX2_readOnce_112 : decode cX2_readOnce 112 = .ok (.iastore, 1) := by decide +kernel
theorem dX2_readOnce_113 : decode cX2_readOnce 113 = .ok (.aload_n 0, 1) := by decide +kernel
theorem dX2_readOnce_114 : decode cX2_readOnce 114 = .ok (.bipush 59, 2) := by decide +kernel
theorem dX2_readOnce_116 : decode cX2_readOnce 116 = .ok (.invokevirtual 163, 3) := by decide +kernel
theorem dX2_readOnce_119 : decode cX2_readOnce 119 = .ok (.return_, 1) := by decide +kernel
theorem dX2_readTape_0 : decode cX2_readTape 0 = .ok (.aload_n 0, 1) := by decide +kernel
theorem dX2_readTape_1 : decode cX2_readTape 1 = .ok (.invokevirtual 35, 3) := by decide +kernel
theorem dX2_readTape_4 : decode cX2_readTape 4 = .ok (.aload_n 0, 1) := by decide +kernel
theorem dX2_readTape_5 : decode cX2_readTape 5 = .ok (.iconst 0, 1) := by decide +kernel
theorem dX2_readTape_6 : decode cX2_readTape 6 = .ok (.putfield 32, 3) := by decide +kernel
theorem dX2_readTape_9 : decode cX2_readTape 9 = .ok (.aload_n 0, 1) := by decide +kernel
theorem dX2_readTape_10 : decode cX2_readTape 10 = .ok (.iconst 0, 1) := by decide +kernel
theorem dX2_readTape_11 : decode cX2_readTape 11 = .ok (.putfield 38, 3) := by decide +kernel
theorem dX2_readTape_14 : decode cX2_readTape 14 = .ok (.aload_n 0, 1) := by decide +kernel
theorem dX2_readTape_15 : decode cX2_readTape 15 = .ok (.iconst 0, 1) := by decide +kernel
theorem dX2_readTape_16 : decode cX2_readTape 16 = .ok (.putfield 41, 3) := by decide +kernel
theorem dX2_readTape_19 : decode cX2_readTape 19 = .ok (.aload_n 0, 1) := by decide +kernel
theorem dX2_readTape_20 : decode cX2_readTape 20 = .ok (.iconst 0, 1) := by decide +kernel
theorem dX2_readTape_21 : decode cX2_readTape 21 = .ok (.putfield 25, 3) := by decide +kernel
theorem dX2_readTape_24 : decode cX2_readTape 24 = .ok (.aload_n 0, 1) := by decide +kernel
theorem dX2_readTape_25 : decode cX2_readTape 25 = .ok (.iconst (-1), 1) := by decide +kernel
theorem dX2_readTape_26 : decode cX2_readTape 26 = .ok (.putfield 29, 3) := by decide +kernel
theorem dX2_readTape_29 : decode cX2_readTape 29 = .ok (.aload_n 0, 1) := by decide +kernel
theorem dX2_readTape_30 : decode cX2_readTape 30 = .ok (.iconst (-1), 1) := by decide +kernel
theorem dX2_readTape_31 : decode cX2_readTape 31 = .ok (.putfield 44, 3) := by decide +kernel
theorem dX2_readTape_34 : decode cX2_readTape 34 = .ok (.new 47, 3) := by decide +kernel
theorem dX2_readTape_37 : decode cX2_readTape 37 = .ok (.dup, 1) := by decide +kernel
theorem dX2_readTape_38 : decode cX2_readTape 38 = .ok (.invokespecial 49, 3) := by decide +kernel
theorem dX2_readTape_41 : decode cX2_readTape 41 = .ok (.astore_n 1, 1) := by decide +kernel
theorem dX2_readTape_42 : decode cX2_readTape 42 = .ok (.aload_n 0, 1) := by decide +kernel
theorem dX2_readTape_43 : decode cX2_readTape 43 = .ok (.invokevirtual 50, 3) := by decide +kernel
theorem dX2_readTape_46 : decode cX2_readTape 46 = .ok (.iconst 0, 1) := by decide +kernel
theorem dX2_readTape_47 : decode cX2_readTape 47 = .ok (.istore_n 2, 1) := by decide +kernel
theorem dX2_readTape_48 : decode cX2_readTape 48 = .ok (.iload_n 2, 1) := by decide +kernel
theorem dX2_readTape_49 : decode cX2_readTape 49 = .ok (.sipush 900, 3) := by decide +kernel
theorem dX2_readTape_52 : decode cX2_readTape 52 = .ok (.if_icmp .ge 55, 3) := by decide +kernel
theorem dX2_readTape_55 : decode cX2_readTape 55 = .ok (.aload_n 0, 1) := by decide +kernel
theorem dX2_readTape_56 : decode cX2_readTape 56 = .ok (.getfield 25, 3) := by decide +kernel
theorem dX2_readTape_59 : decode cX2_readTape 59 = .ok (.ifCond .ne 48, 3) := by decide +kernel
theorem dX2_readTape_62 : decode cX2_readTape 62 = .ok (.aload_n 0, 1) := by decide +kernel
theorem dX2_readTape_63 : decode cX2_readTape 63 = .ok (.getfield 53, 3) := by decide +kernel
theorem dX2_readTape_66 : decode cX2_readTape 66 = .ok (.bipush 25, 2) := by decide +kernel
theorem dX2_readTape_68 : decode cX2_readTape 68 = .ok (.if_icmp .eq 39, 3) := by decide +kernel
theorem dX2_readTape_71 : decode cX2_readTape 71 = .ok (.aload_n 0, 1) := by decide +kernel
theorem dX2_readTape_72 : decode cX2_readTape 72 = .ok (.getfield 53, 3) := by decide +kernel
theorem dX2_readTape_75 : decode cX2_readTape 75 = .ok (.ifCond .ne 11, 3) := by decide +kernel
theorem dX2_readTape_78 : decode cX2_readTape 78 = .ok (.aload_n 0, 1) := by decide +kernel
theorem dX2_readTape_79 : decode cX2_readTape 79 = .ok (.aload_n 1, 1) := by decide +kernel
theorem dX2_readTape_80 : decode cX2_readTape 80 = .ok (.invokevirtual 56, 3) := by decide +kernel
theorem dX2_readTape_83 : decode cX2_readTape 83 = .ok (.goto 8, 3) := by decide +kernel
theorem dX2_readTape_86 : decode cX2_readTape 86 = .ok (.aload_n 0, 1) := by decide +kernel
theorem dX2_readTape_87 : decode cX2_readTape 87 = .ok (.aload_n 1, 1) := by decide +kernel
theorem dX2_readTape_88 : decode cX2_readTape 88 = .ok (.invokevirtual 60, 3) := by decide +kernel
theorem dX2_readTape_91 : decode cX2_readTape 91 = .ok (.aload_n 1, 1) := by decide +kernel
theorem dX2_readTape_92 : decode cX2_readTape 92 = .ok (.dup, 1) := by decide +kernel
theorem dX2_readTape_93 : decode cX2_readTape 93 = .ok (.getfield 63, 3) := by decide +kernel
theorem dX2_readTape_96 : decode cX2_readTape 96 = .ok (.iconst 1, 1) := by decide +kernel
theorem dX2_readTape_97 : decode cX2_readTape 97 = .ok (.iadd, 1) := by decide +kernel
theorem dX2_readTape_98 : decode cX2_readTape 98 = .ok (.putfield 63, 3) := by decide +kernel
theorem dX2_readTape_101 : decode cX2_readTape 101 = .ok (.iinc 2 1, 3) := by decide +kernel
theorem dX2_readTape_104 : decode cX2_readTape 104 = .ok (.goto (-56), 3) := by decide +kernel
theorem dX2_readTape_107 : decode cX2_readTape 107 = .ok (.aload_n 1, 1) := by decide +kernel
theorem dX2_readTape_108 : decode cX2_readTape 108 = .ok (.areturn, 1) := by decide +kernel
theorem dX8_act_0 : decode cX8_act 0 = .ok (.iload_n 1, 1) := by decide +kernel
theorem dX8_act_1 : decode cX8_act 1 = .ok (.ifCond .lt 12, 3) := by decide +kernel
theorem dX8_act_4 : decode cX8_act 4 = .ok (.iload_n 1, 1) := by decide +kernel
theorem dX8_act_5 : decode cX8_act 5 = .ok (.aload_n 0, 1) := by decide +kernel
theorem dX8_act_6 : decode cX8_act 6 = .ok (.getfield 18, 3) := by decide +kernel
theorem dX8_act_9 : decode cX8_act 9 = .ok (.arraylength, 1) := by decide +kernel
theorem dX8_act_10 : decode cX8_act 10 = .ok (.if_icmp .lt 6, 3) := by decide +kernel
theorem dX8_act_13 : decode cX8_act 13 = .ok (.bipush (-2), 2) := by decide +kernel
theorem dX8_act_15 : decode cX8_act 15 = .ok (.ireturn, 1) := by decide +kernel
theorem dX8_act_16 : decode cX8_act 16 = .ok (.aload_n 0, 1) := by decide +kernel
theorem dX8_act_17 : decode cX8_act 17 = .ok (.getfield 10, 3) := by decide +kernel
theorem dX8_act_20 : decode cX8_act 20 = .ok (.invokevirtual 68, 3) := by decide +kernel
theorem dX8_act_23 : decode cX8_act 23 = .ok (.astore_n 2, 1) := by decide +kernel
theorem dX8_act_24 : decode cX8_act 24 = .ok (.aload_n 0, 1) := by decide +kernel
theorem dX8_act_25 : decode cX8_act 25 = .ok (.getfield 10, 3) := by decide +kernel
theorem dX8_act_28 : decode cX8_act 28 = .ok (.getfield 72, 3) := by decide +kernel
theorem dX8_act_31 : decode cX8_act 31 = .ok (.ifCond .eq 5, 3) := by decide +kernel
theorem dX8_act_34 : decode cX8_act 34 = .ok (.iconst (-1), 1) := by decide +kernel
theorem dX8_act_35 : decode cX8_act 35 = .ok (.ireturn, 1) := by decide +kernel
theorem dX8_act_36 : decode cX8_act 36 = .ok (.aload_n 0, 1) := by decide +kernel
theorem dX8_act_37 : decode cX8_act 37 = .ok (.getfield 18, 3) := by decide +kernel
theorem dX8_act_40 : decode cX8_act 40 = .ok (.iload_n 1, 1) := by decide +kernel
theorem dX8_act_41 : decode cX8_act 41 = .ok (.aload_n 2, 1) := by decide +kernel
theorem dX8_act_42 : decode cX8_act 42 = .ok (.aastore, 1) := by decide +kernel
theorem dX8_act_43 : decode cX8_act 43 = .ok (.aload_n 2, 1) := by decide +kernel
theorem dX8_act_44 : decode cX8_act 44 = .ok (.getfield 75, 3) := by decide +kernel
theorem dX8_act_47 : decode cX8_act 47 = .ok (.ireturn, 1) := by decide +kernel
def f_X2_takeWhen (a0 : Nat) (h : Hp) : Option (Option Nat × Hp) :=
  (rc h (some a0) 2).bind fun g3 =>
  (f_X2_take g3 (9 : Int32) h).bind fun h1 =>
  (putI h1 (some a0) 2 9 0).bind fun h5 =>
  (rc h5 (some a0) 2).bind fun g9 =>
  (f_rg 200 0 g9 (0 : Int32) (0 : Int32) h5).bind fun h7 =>
  (rc h7 (some a0) 2).bind fun g13 =>
  (f_X2_take g13 (59 : Int32) h7).bind fun h11 =>
  (getQ h11 (some a0) 2 8).bind fun x15 =>
  (getI h11 (some a0) 2 9).bind fun x17 =>
  (getQ h11 (some a0) 2 8).bind fun x19 =>
  (aln h11 x19 10).bind fun x21 =>
  b1 (f_J7_copyOf_59c91 x15 (mxI (0 : Int32) (mnI x17 x21)) h11) fun x25 h23 =>
  some (x25, h23)
set_option maxHeartbeats 4000000 in
theorem t_X2_takeWhen (E : En) (d : Nat) {a0 : Nat} {h h' : Hp} {r : Option Nat} {K : Option Vv → Hp → Prop} (hf : f_X2_takeWhen a0 h = some (r, h')) (hk : K (some (vq r)) h') : MC E m_X2_takeWhen (d + 202) 1 900 [vq (some a0)] h K := by
  unfold f_X2_takeWhen at hf
  show MW E m_X2_takeWhen (d + 202) 1 900 0 [some (vq (some a0))] [] h K
  refine mw_aload_n (x := (some a0)) dX2_takeWhen_0 rfl ?_
  refine mw_bipush (v := 9) dX2_takeWhen_1 (by decide) ?_
  obtain ⟨g3, e4, hf⟩ := ob hf
  obtain ⟨h1, e2, hf⟩ := ob hf
  refine ml_callV (ci := 2) (mc := 1) (ms := 900) (mc' := 0) (ms' := 0) [vi (9 : Int32)] dX2_takeWhen_3 mk_X2_take lk_RX2_163 im_X2_take se_X2_take (by decide) e4 rfl (Nat.le_of_ble_eq_true rfl) (Nat.le_of_ble_eq_true rfl) (t_X2_take E _ e2 isR_rfl) ?_
  refine mw_aload_n (x := (some a0)) dX2_takeWhen_6 rfl ?_
  refine mw_iconst (v := 0) dX2_takeWhen_7 (by decide) ?_
  obtain ⟨h5, e6, hf⟩ := ob hf
  refine ml_putI dX2_takeWhen_8 fl_RX2_170 (Or.inl rfl) rfl rfl e6 ?_
  refine mw_aload_n (x := (some a0)) dX2_takeWhen_11 rfl ?_
  refine mw_iconst (v := 0) dX2_takeWhen_12 (by decide) ?_
  refine mw_iconst (v := 0) dX2_takeWhen_13 (by decide) ?_
  obtain ⟨g9, e10, hf⟩ := ob hf
  obtain ⟨h7, e8, hf⟩ := ob hf
  refine ml_callV (ci := 2) (mc := 1) (ms := 900) (mc' := 0) (ms' := 0) [vi (0 : Int32), vi (0 : Int32)] dX2_takeWhen_14 mk_X2_readLevel lk_RX2_173 im_X2_readLevel se_X2_readLevel (by decide) e10 rfl (Nat.le_of_ble_eq_true rfl) (Nat.le_of_ble_eq_true rfl) ((Rg_all E 200 _).1 e8 isR_rfl) ?_
  refine mw_aload_n (x := (some a0)) dX2_takeWhen_17 rfl ?_
  refine mw_bipush (v := 59) dX2_takeWhen_18 (by decide) ?_
  obtain ⟨g13, e14, hf⟩ := ob hf
  obtain ⟨h11, e12, hf⟩ := ob hf
  refine ml_callV (ci := 2) (mc := 1) (ms := 900) (mc' := 0) (ms' := 0) [vi (59 : Int32)] dX2_takeWhen_20 mk_X2_take lk_RX2_163 im_X2_take se_X2_take (by decide) e14 rfl (Nat.le_of_ble_eq_true rfl) (Nat.le_of_ble_eq_true rfl) (t_X2_take E _ e12 isR_rfl) ?_
  refine mw_aload_n (x := (some a0)) dX2_takeWhen_23 rfl ?_
  obtain ⟨x15, e16, hf⟩ := ob hf
  refine ml_getQ dX2_takeWhen_24 fl_RX2_22 rfl e16 ?_
  refine mw_iconst (v := 0) dX2_takeWhen_27 (by decide) ?_
  refine mw_aload_n (x := (some a0)) dX2_takeWhen_28 rfl ?_
  obtain ⟨x17, e18, hf⟩ := ob hf
  refine ml_getI dX2_takeWhen_29 fl_RX2_170 rfl e18 ?_
  refine mw_aload_n (x := (some a0)) dX2_takeWhen_32 rfl ?_
  obtain ⟨x19, e20, hf⟩ := ob hf
  refine ml_getQ dX2_takeWhen_33 fl_RX2_22 rfl e20 ?_
  obtain ⟨x21, e22, hf⟩ := ob hf
  refine ml_alen dX2_takeWhen_36 e22 (by decide) (by decide) ?_
  refine ml_min dX2_takeWhen_37 lk_RX2_177 (Nat.le_of_ble_eq_true rfl) ?_
  refine ml_max dX2_takeWhen_40 lk_RX2_182 (Nat.le_of_ble_eq_true rfl) ?_
  obtain ⟨x25, h23, e24, hf⟩ := ob1 hf
  refine ml_callS (mc := 0) (ms := 0) (mc' := 1) (ms' := 900) [vq x15, vi (mxI (0 : Int32) (mnI x17 x21))] dX2_takeWhen_43 mk_J7_copyOf_59c91 lk_RX2_185 st_J7_copyOf_59c91 rfl (Nat.le_of_ble_eq_true rfl) (Nat.le_of_ble_eq_true rfl) (t_J7_copyOf_59c91 E _ e24 isR_rfl) ?_
  obtain ⟨rfl, rfl⟩ := y1 hf
  exact mw_areturn dX2_takeWhen_46 rfl (Or.inr ⟨_, rfl⟩) hk
def f_X2_readCounts (a0 : Nat) (q1 : Option Nat) (h : Hp) : Option (Hp) :=
  (getI h q1 0 1).bind fun x1 =>
  if x1 < (10 : Int32) then
    (rc h (some a0) 2).bind fun g6 =>
    (f_X2_nextToken g6 h).bind fun h4 =>
    (rc h4 (some a0) 2).bind fun g10 =>
    b1 (f_X2_takeKind g10 h4) fun x12 h8 =>
    (rc h8 (some a0) 2).bind fun g15 =>
    b1 (f_X2_takeNumber g15 (0 : Int32) (100 : Int32) h8) fun x17 h13 =>
    (rc (nw h13 3 0) (some a0) 2).bind fun g20 =>
    b1 (f_X2_takeWhen g20 (nw h13 3 0)) fun x22 h18 =>
    (rc h18 (some h13.1.length) 3).bind fun g25 =>
    (f_X3_init g25 x12 x17 x22 h18).bind fun h23 =>
    (rc h23 q1 0).bind fun g29 =>
    (f_X0_addRule g29 (some h13.1.length) h23).bind fun h27 =>
    some h27
  else
    (rc h (some a0) 2).bind fun g33 =>
    (f_X2_refuse g33 (2 : Int32) h).bind fun h31 =>
    some h31
set_option maxHeartbeats 4000000 in
theorem t_X2_readCounts (E : En) (d : Nat) {a0 : Nat} {q1 : Option Nat} {h h' : Hp} {K : Option Vv → Hp → Prop} (hf : f_X2_readCounts a0 q1 h = some h') (hk : K none h') : MC E m_X2_readCounts (d + 203) 2 903 [vq (some a0), vq q1] h K := by
  unfold f_X2_readCounts at hf
  show MW E m_X2_readCounts (d + 203) 2 903 0 [some (vq (some a0)), some (vq q1), none, none] [] h K
  refine mw_aload_n (x := q1) dX2_readCounts_0 rfl ?_
  obtain ⟨x1, e2, hf⟩ := ob hf
  refine ml_getI dX2_readCounts_1 fl_RX2_116 rfl e2 ?_
  refine mw_bipush (v := 10) dX2_readCounts_4 (by decide) ?_
  refine mw_icmp_lt (tgt := 15) dX2_readCounts_6 rfl (fun c3 => ?_) (fun c3 => ?_)
  · rw [if_pos c3] at hf
    refine mw_aload_n (x := (some a0)) dX2_readCounts_15 rfl ?_
    obtain ⟨g6, e7, hf⟩ := ob hf
    obtain ⟨h4, e5, hf⟩ := ob hf
    refine ml_callV (ci := 2) (mc := 2) (ms := 903) (mc' := 0) (ms' := 0) [] dX2_readCounts_16 mk_X2_nextToken lk_RX2_50 im_X2_nextToken se_X2_nextToken (by decide) e7 rfl (Nat.le_of_ble_eq_true rfl) (Nat.le_of_ble_eq_true rfl) (t_X2_nextToken E _ e5 isR_rfl) ?_
    refine mw_aload_n (x := (some a0)) dX2_readCounts_19 rfl ?_
    obtain ⟨g10, e11, hf⟩ := ob hf
    obtain ⟨x12, h8, e9, hf⟩ := ob1 hf
    refine ml_callV (ci := 2) (mc := 2) (ms := 903) (mc' := 0) (ms' := 0) [] dX2_readCounts_20 mk_X2_takeKind lk_RX2_123 im_X2_takeKind se_X2_takeKind (by decide) e11 rfl (Nat.le_of_ble_eq_true rfl) (Nat.le_of_ble_eq_true rfl) (t_X2_takeKind E _ e9 isR_rfl) ?_
    refine mw_istore_n dX2_readCounts_23 (by decide) rfl ?_
    refine mw_aload_n (x := (some a0)) dX2_readCounts_24 rfl ?_
    refine mw_iconst (v := 0) dX2_readCounts_25 (by decide) ?_
    refine mw_bipush (v := 100) dX2_readCounts_26 (by decide) ?_
    obtain ⟨g15, e16, hf⟩ := ob hf
    obtain ⟨x17, h13, e14, hf⟩ := ob1 hf
    refine ml_callV (ci := 2) (mc := 2) (ms := 903) (mc' := 0) (ms' := 0) [vi (0 : Int32), vi (100 : Int32)] dX2_readCounts_28 mk_X2_takeNumber lk_RX2_126 im_X2_takeNumber se_X2_takeNumber (by decide) e16 rfl (Nat.le_of_ble_eq_true rfl) (Nat.le_of_ble_eq_true rfl) (t_X2_takeNumber E _ e14 isR_rfl) ?_
    refine mw_istore_n dX2_readCounts_31 (by decide) rfl ?_
    refine mw_aload_n (x := q1) dX2_readCounts_32 rfl ?_
    refine mw_new (ci := 3) (mc := 1) (ms := 900) dX2_readCounts_33 (by decide) cl_RX2_130 it_3 in_3 ?_
    refine mw_dupq dX2_readCounts_36 ?_
    refine mw_iload_n (x := x12) dX2_readCounts_37 rfl ?_
    refine mw_iload_n (x := x17) dX2_readCounts_38 rfl ?_
    refine mw_aload_n (x := (some a0)) dX2_readCounts_39 rfl ?_
    obtain ⟨g20, e21, hf⟩ := ob hf
    obtain ⟨x22, h18, e19, hf⟩ := ob1 hf
    refine ml_callV (ci := 2) (mc := 0) (ms := 0) (mc' := 1) (ms' := 900) [] dX2_readCounts_40 mk_X2_takeWhen lk_RX2_132 im_X2_takeWhen se_X2_takeWhen (by decide) e21 rfl (Nat.le_of_ble_eq_true rfl) (Nat.le_of_ble_eq_true rfl) (t_X2_takeWhen E _ e19 isR_rfl) ?_
    obtain ⟨g25, e26, hf⟩ := ob hf
    obtain ⟨h23, e24, hf⟩ := ob hf
    refine ml_callI (mc := 0) (ms := 0) (mc' := 0) (ms' := 0) [vi x12, vi x17, vq x22] dX2_readCounts_43 mk_X3_init rfl lk_RX2_136 im_X3_init rfl e26 rfl (Nat.le_of_ble_eq_true rfl) (Nat.le_of_ble_eq_true rfl) (t_X3_init E _ e24 isR_rfl) ?_
    obtain ⟨g29, e30, hf⟩ := ob hf
    obtain ⟨h27, e28, hf⟩ := ob hf
    refine ml_callV (ci := 0) (mc := 0) (ms := 0) (mc' := 0) (ms' := 0) [vq (some h13.1.length)] dX2_readCounts_46 mk_X0_addRule lk_RX2_139 im_X0_addRule se_X0_addRule (by decide) e30 rfl (Nat.le_of_ble_eq_true rfl) (Nat.le_of_ble_eq_true rfl) (t_X0_addRule E _ e28 isR_rfl) ?_
    obtain rfl := y0 hf
    exact mw_return dX2_readCounts_49 rfl hk
  · rw [if_neg c3] at hf
    refine mw_aload_n (x := (some a0)) dX2_readCounts_9 rfl ?_
    refine mw_iconst (v := 2) dX2_readCounts_10 (by decide) ?_
    obtain ⟨g33, e34, hf⟩ := ob hf
    obtain ⟨h31, e32, hf⟩ := ob hf
    refine ml_callV (ci := 2) (mc := 2) (ms := 903) (mc' := 0) (ms' := 0) [vi (2 : Int32)] dX2_readCounts_11 mk_X2_refuse lk_RX2_119 im_X2_refuse se_X2_refuse (by decide) e34 rfl (Nat.le_of_ble_eq_true rfl) (Nat.le_of_ble_eq_true rfl) (t_X2_refuse E _ e32 isR_rfl) ?_
    obtain rfl := y0 hf
    exact mw_return dX2_readCounts_14 rfl hk
def f_X2_readOnce (a0 : Nat) (q1 : Option Nat) (h : Hp) : Option (Hp) :=
  (getI h (some a0) 2 7).bind fun x1 =>
  if x1 < (1 : Int32) then
    (rc h (some a0) 2).bind fun g6 =>
    (f_X2_refuse g6 (2 : Int32) h).bind fun h4 =>
    some h4
  else
    if (8 : Int32) < x1 then
      (rc h (some a0) 2).bind fun g11 =>
      (f_X2_refuse g11 (2 : Int32) h).bind fun h9 =>
      some h9
    else
      (getI h (some a0) 2 11).bind fun x13 =>
      if ((x13 >>> (x1 &&& 31)) &&& (1 : Int32)) = (0 : Int32) then
        (getI h (some a0) 2 11).bind fun x16 =>
        (putI h (some a0) 2 11 (x16 ||| ((1 : Int32) <<< (x1 &&& 31)))).bind fun h18 =>
        (rc h18 (some a0) 2).bind fun g22 =>
        (f_X2_nextToken g22 h18).bind fun h20 =>
        if x1 = (1 : Int32) then
          (rc h20 (some a0) 2).bind fun g63 =>
          b1 (f_X2_takeWhen g63 h20) fun x65 h61 =>
          (putQ h61 q1 0 2 x65).bind fun h66 =>
          (putZ h66 q1 0 3 1).bind fun h68 =>
          some h68
        else
          b1 (f_X8_at (some 0) (x1 - (2 : Int32)) h20) fun x27 h25 =>
          b1 (f_X8_at (some 1) (x1 - (2 : Int32)) h25) fun x30 h28 =>
          (rc h28 (some a0) 2).bind fun g33 =>
          b1 (f_X2_takeNumber g33 x27 x30 h28) fun x35 h31 =>
          Option.bind ((if (x1 - (2 : Int32)) < (0 : Int32) then
              some h31
            else
              (getQ h31 q1 0 4).bind fun x46 =>
              (aln h31 x46 10).bind fun x48 =>
              if x48 ≤ (x1 - (2 : Int32)) then
                some h31
              else
                (getQ h31 q1 0 4).bind fun x51 =>
                (wrI h31 x51 (x1 - (2 : Int32)) x35).bind fun h53 =>
                some h53 : Option (Hp))) fun h55 =>
          (rc h55 (some a0) 2).bind fun g59 =>
          (f_X2_take g59 (59 : Int32) h55).bind fun h57 =>
          some h57
      else
        (rc h (some a0) 2).bind fun g72 =>
        (f_X2_refuse g72 (2 : Int32) h).bind fun h70 =>
        some h70
set_option maxHeartbeats 4000000 in
theorem t_X2_readOnce (E : En) (d : Nat) {a0 : Nat} {q1 : Option Nat} {h h' : Hp} {K : Option Vv → Hp → Prop} (hf : f_X2_readOnce a0 q1 h = some h') (hk : K none h') : MC E m_X2_readOnce (d + 203) 1 900 [vq (some a0), vq q1] h K := by
  unfold f_X2_readOnce at hf
  show MW E m_X2_readOnce (d + 203) 1 900 0 [some (vq (some a0)), some (vq q1), none, none, none] [] h K
  refine mw_aload_n (x := (some a0)) dX2_readOnce_0 rfl ?_
  obtain ⟨x1, e2, hf⟩ := ob hf
  refine ml_getI dX2_readOnce_1 fl_RX2_53 rfl e2 ?_
  refine mw_istore_n dX2_readOnce_4 (by decide) rfl ?_
  refine mw_iload_n (x := x1) dX2_readOnce_5 rfl ?_
  refine mw_iconst (v := 1) dX2_readOnce_6 (by decide) ?_
  refine mw_icmp_lt (tgt := 27) dX2_readOnce_7 rfl (fun c3 => ?_) (fun c3 => ?_)
  · rw [if_pos c3] at hf
    refine mw_aload_n (x := (some a0)) dX2_readOnce_27 rfl ?_
    refine mw_iconst (v := 2) dX2_readOnce_28 (by decide) ?_
    obtain ⟨g6, e7, hf⟩ := ob hf
    obtain ⟨h4, e5, hf⟩ := ob hf
    refine ml_callV (ci := 2) (mc := 1) (ms := 900) (mc' := 0) (ms' := 0) [vi (2 : Int32)] dX2_readOnce_29 mk_X2_refuse lk_RX2_119 im_X2_refuse se_X2_refuse (by decide) e7 rfl (Nat.le_of_ble_eq_true rfl) (Nat.le_of_ble_eq_true rfl) (t_X2_refuse E _ e5 isR_rfl) ?_
    obtain rfl := y0 hf
    exact mw_return dX2_readOnce_32 rfl hk
  · rw [if_neg c3] at hf
    refine mw_iload_n (x := x1) dX2_readOnce_10 rfl ?_
    refine mw_bipush (v := 8) dX2_readOnce_11 (by decide) ?_
    refine mw_icmp_gt (tgt := 27) dX2_readOnce_13 rfl (fun c8 => ?_) (fun c8 => ?_)
    · rw [if_pos c8] at hf
      refine mw_aload_n (x := (some a0)) dX2_readOnce_27 rfl ?_
      refine mw_iconst (v := 2) dX2_readOnce_28 (by decide) ?_
      obtain ⟨g11, e12, hf⟩ := ob hf
      obtain ⟨h9, e10, hf⟩ := ob hf
      refine ml_callV (ci := 2) (mc := 1) (ms := 900) (mc' := 0) (ms' := 0) [vi (2 : Int32)] dX2_readOnce_29 mk_X2_refuse lk_RX2_119 im_X2_refuse se_X2_refuse (by decide) e12 rfl (Nat.le_of_ble_eq_true rfl) (Nat.le_of_ble_eq_true rfl) (t_X2_refuse E _ e10 isR_rfl) ?_
      obtain rfl := y0 hf
      exact mw_return dX2_readOnce_32 rfl hk
    · rw [if_neg c8] at hf
      refine mw_aload_n (x := (some a0)) dX2_readOnce_16 rfl ?_
      obtain ⟨x13, e14, hf⟩ := ob hf
      refine ml_getI dX2_readOnce_17 fl_RX2_41 rfl e14 ?_
      refine mw_iload_n (x := x1) dX2_readOnce_20 rfl ?_
      refine mw_ishr dX2_readOnce_21 ?_
      refine mw_iconst (v := 1) dX2_readOnce_22 (by decide) ?_
      refine mw_iand dX2_readOnce_23 ?_
      refine mw_if_eq (tgt := 33) dX2_readOnce_24 rfl (fun c15 => ?_) (fun c15 => ?_)
      · rw [if_pos c15] at hf
        refine mw_aload_n (x := (some a0)) dX2_readOnce_33 rfl ?_
        refine mw_dupq dX2_readOnce_34 ?_
        obtain ⟨x16, e17, hf⟩ := ob hf
        refine ml_getI dX2_readOnce_35 fl_RX2_41 rfl e17 ?_
        refine mw_iconst (v := 1) dX2_readOnce_38 (by decide) ?_
        refine mw_iload_n (x := x1) dX2_readOnce_39 rfl ?_
        refine mw_ishl dX2_readOnce_40 ?_
        refine mw_ior dX2_readOnce_41 ?_
        obtain ⟨h18, e19, hf⟩ := ob hf
        refine ml_putI dX2_readOnce_42 fl_RX2_41 (Or.inl rfl) rfl rfl e19 ?_
        refine mw_aload_n (x := (some a0)) dX2_readOnce_45 rfl ?_
        obtain ⟨g22, e23, hf⟩ := ob hf
        obtain ⟨h20, e21, hf⟩ := ob hf
        refine ml_callV (ci := 2) (mc := 1) (ms := 900) (mc' := 0) (ms' := 0) [] dX2_readOnce_46 mk_X2_nextToken lk_RX2_50 im_X2_nextToken se_X2_nextToken (by decide) e23 rfl (Nat.le_of_ble_eq_true rfl) (Nat.le_of_ble_eq_true rfl) (t_X2_nextToken E _ e21 isR_rfl) ?_
        refine mw_iload_n (x := x1) dX2_readOnce_49 rfl ?_
        refine mw_iconst (v := 1) dX2_readOnce_50 (by decide) ?_
        refine mw_icmp_ne (tgt := 68) dX2_readOnce_51 rfl (fun c24 => ?_) (fun c24 => ?_)
        · rw [if_neg c24] at hf
          refine mw_iload_n (x := x1) dX2_readOnce_68 rfl ?_
          refine mw_iconst (v := 2) dX2_readOnce_69 (by decide) ?_
          refine mw_isub dX2_readOnce_70 ?_
          refine mw_istore_n dX2_readOnce_71 (by decide) rfl ?_
          refine mw_aload_n (x := (some a0)) dX2_readOnce_72 rfl ?_
          refine mw_gets0 dX2_readOnce_73 sl_RX2_150 ?_
          refine mw_iload_n (x := (x1 - (2 : Int32))) dX2_readOnce_76 rfl ?_
          obtain ⟨x27, h25, e26, hf⟩ := ob1 hf
          refine ml_callSN (mc := 1) (ms := 900) (mc' := 0) (ms' := 0) [vq (some 0), vi (x1 - (2 : Int32))] dX2_readOnce_77 mk_X8_at lk_RX2_153 st_X8_at rfl (Nat.le_of_ble_eq_true rfl) (Nat.le_of_ble_eq_true rfl) (t_X8_at E _ e26 isR_rfl) ?_
          refine mw_gets1 dX2_readOnce_80 sl_RX2_157 ?_
          refine mw_iload_n (x := (x1 - (2 : Int32))) dX2_readOnce_83 rfl ?_
          obtain ⟨x30, h28, e29, hf⟩ := ob1 hf
          refine ml_callSN (mc := 1) (ms := 900) (mc' := 0) (ms' := 0) [vq (some 1), vi (x1 - (2 : Int32))] dX2_readOnce_84 mk_X8_at lk_RX2_153 st_X8_at rfl (Nat.le_of_ble_eq_true rfl) (Nat.le_of_ble_eq_true rfl) (t_X8_at E _ e29 isR_rfl) ?_
          obtain ⟨g33, e34, hf⟩ := ob hf
          obtain ⟨x35, h31, e32, hf⟩ := ob1 hf
          refine ml_callV (ci := 2) (mc := 1) (ms := 900) (mc' := 0) (ms' := 0) [vi x27, vi x30] dX2_readOnce_87 mk_X2_takeNumber lk_RX2_126 im_X2_takeNumber se_X2_takeNumber (by decide) e34 rfl (Nat.le_of_ble_eq_true rfl) (Nat.le_of_ble_eq_true rfl) (t_X2_takeNumber E _ e32 isR_rfl) ?_
          refine mw_istore dX2_readOnce_90 (by decide) rfl ?_
          refine mw_iload_n (x := (x1 - (2 : Int32))) dX2_readOnce_92 rfl ?_
          obtain ⟨h55, r56, hf⟩ := ob hf
          have J74 : MW E m_X2_readOnce (d + 203) 1 900 113 [some (vq (some a0)), none, none, none, none] [] h55 K := by
            refine mw_aload_n (x := (some a0)) dX2_readOnce_113 rfl ?_
            refine mw_bipush (v := 59) dX2_readOnce_114 (by decide) ?_
            obtain ⟨g59, e60, hf⟩ := ob hf
            obtain ⟨h57, e58, hf⟩ := ob hf
            refine ml_callV (ci := 2) (mc := 1) (ms := 900) (mc' := 0) (ms' := 0) [vi (59 : Int32)] dX2_readOnce_116 mk_X2_take lk_RX2_163 im_X2_take se_X2_take (by decide) e60 rfl (Nat.le_of_ble_eq_true rfl) (Nat.le_of_ble_eq_true rfl) (t_X2_take E _ e58 isR_rfl) ?_
            obtain rfl := y0 hf
            exact mw_return dX2_readOnce_119 rfl hk
          refine mw_if_lt (tgt := 113) dX2_readOnce_93 rfl (fun c36 => ?_) (fun c36 => ?_)
          · rw [if_pos c36] at r56
            obtain rfl := y0 r56
            exact MW.sub (subL_s (subL_n (subL_n (subL_n (subL_n subL_nil))))) (MW.more (Nat.le_refl _) (by decide) (by decide) J74)
          · rw [if_neg c36] at r56
            refine mw_iload_n (x := (x1 - (2 : Int32))) dX2_readOnce_96 rfl ?_
            refine mw_aload_n (x := q1) dX2_readOnce_97 rfl ?_
            obtain ⟨x46, e47, r56⟩ := ob r56
            refine ml_getQ dX2_readOnce_98 fl_RX2_160 rfl e47 ?_
            obtain ⟨x48, e49, r56⟩ := ob r56
            refine ml_alen dX2_readOnce_101 e49 (by decide) (by decide) ?_
            refine mw_icmp_ge (tgt := 113) dX2_readOnce_102 rfl (fun c50 => ?_) (fun c50 => ?_)
            · rw [if_pos c50] at r56
              obtain rfl := y0 r56
              exact MW.sub (subL_s (subL_n (subL_n (subL_n (subL_n subL_nil))))) (MW.more (Nat.le_refl _) (by decide) (by decide) J74)
            · rw [if_neg c50] at r56
              refine mw_aload_n (x := q1) dX2_readOnce_105 rfl ?_
              obtain ⟨x51, e52, r56⟩ := ob r56
              refine ml_getQ dX2_readOnce_106 fl_RX2_160 rfl e52 ?_
              refine mw_iload_n (x := (x1 - (2 : Int32))) dX2_readOnce_109 rfl ?_
              refine mw_iload (x := x35) dX2_readOnce_110 rfl ?_
              obtain ⟨h53, e54, r56⟩ := ob r56
              refine ml_iast dX2_readOnce_112 e54 ?_
              obtain rfl := y0 r56
              exact MW.sub (subL_s (subL_n (subL_n (subL_n (subL_n subL_nil))))) (MW.more (Nat.le_refl _) (by decide) (by decide) J74)
        · rw [if_pos c24] at hf
          refine mw_aload_n (x := q1) dX2_readOnce_54 rfl ?_
          refine mw_aload_n (x := (some a0)) dX2_readOnce_55 rfl ?_
          obtain ⟨g63, e64, hf⟩ := ob hf
          obtain ⟨x65, h61, e62, hf⟩ := ob1 hf
          refine ml_callV (ci := 2) (mc := 0) (ms := 0) (mc' := 1) (ms' := 900) [] dX2_readOnce_56 mk_X2_takeWhen lk_RX2_132 im_X2_takeWhen se_X2_takeWhen (by decide) e64 rfl (Nat.le_of_ble_eq_true rfl) (Nat.le_of_ble_eq_true rfl) (t_X2_takeWhen E _ e62 isR_rfl) ?_
          obtain ⟨h66, e67, hf⟩ := ob hf
          refine ml_putQ dX2_readOnce_59 fl_RX2_143 (Or.inl rfl) rfl (Or.inr ⟨_, rfl⟩) e67 ?_
          refine mw_aload_n (x := q1) dX2_readOnce_62 rfl ?_
          refine mw_iconst (v := 1) dX2_readOnce_63 (by decide) ?_
          obtain ⟨h68, e69, hf⟩ := ob hf
          refine ml_putZ dX2_readOnce_64 fl_RX2_146 (Or.inl rfl) rfl rfl e69 ?_
          obtain rfl := y0 hf
          exact mw_return dX2_readOnce_67 rfl hk
      · rw [if_neg c15] at hf
        refine mw_aload_n (x := (some a0)) dX2_readOnce_27 rfl ?_
        refine mw_iconst (v := 2) dX2_readOnce_28 (by decide) ?_
        obtain ⟨g72, e73, hf⟩ := ob hf
        obtain ⟨h70, e71, hf⟩ := ob hf
        refine ml_callV (ci := 2) (mc := 1) (ms := 900) (mc' := 0) (ms' := 0) [vi (2 : Int32)] dX2_readOnce_29 mk_X2_refuse lk_RX2_119 im_X2_refuse se_X2_refuse (by decide) e73 rfl (Nat.le_of_ble_eq_true rfl) (Nat.le_of_ble_eq_true rfl) (t_X2_refuse E _ e71 isR_rfl) ?_
        obtain rfl := y0 hf
        exact mw_return dX2_readOnce_32 rfl hk
set_option maxHeartbeats 4000000 in
theorem t_X2_readOnce_free (E : En) (d : Nat) {a0 : Nat} {q1 : Option Nat} {h h' : Hp} {K : Option Vv → Hp → Prop} (hf : f_X2_readOnce a0 q1 h = some h') (hw : ∀ x, getI h (some a0) 2 7 = some x → ¬ x = 1) (hk : K none h') : MC E m_X2_readOnce (d + 203) 0 0 [vq (some a0), vq q1] h K := by
  unfold f_X2_readOnce at hf
  show MW E m_X2_readOnce (d + 203) 0 0 0 [some (vq (some a0)), some (vq q1), none, none, none] [] h K
  refine mw_aload_n (x := (some a0)) dX2_readOnce_0 rfl ?_
  obtain ⟨x1, e2, hf⟩ := ob hf
  refine ml_getI dX2_readOnce_1 fl_RX2_53 rfl e2 ?_
  refine mw_istore_n dX2_readOnce_4 (by decide) rfl ?_
  refine mw_iload_n (x := x1) dX2_readOnce_5 rfl ?_
  refine mw_iconst (v := 1) dX2_readOnce_6 (by decide) ?_
  refine mw_icmp_lt (tgt := 27) dX2_readOnce_7 rfl (fun c3 => ?_) (fun c3 => ?_)
  · rw [if_pos c3] at hf
    refine mw_aload_n (x := (some a0)) dX2_readOnce_27 rfl ?_
    refine mw_iconst (v := 2) dX2_readOnce_28 (by decide) ?_
    obtain ⟨g6, e7, hf⟩ := ob hf
    obtain ⟨h4, e5, hf⟩ := ob hf
    refine ml_callV (ci := 2) (mc := 0) (ms := 0) (mc' := 0) (ms' := 0) [vi (2 : Int32)] dX2_readOnce_29 mk_X2_refuse lk_RX2_119 im_X2_refuse se_X2_refuse (by decide) e7 rfl (Nat.le_of_ble_eq_true rfl) (Nat.le_of_ble_eq_true rfl) (t_X2_refuse E _ e5 isR_rfl) ?_
    obtain rfl := y0 hf
    exact mw_return dX2_readOnce_32 rfl hk
  · rw [if_neg c3] at hf
    refine mw_iload_n (x := x1) dX2_readOnce_10 rfl ?_
    refine mw_bipush (v := 8) dX2_readOnce_11 (by decide) ?_
    refine mw_icmp_gt (tgt := 27) dX2_readOnce_13 rfl (fun c8 => ?_) (fun c8 => ?_)
    · rw [if_pos c8] at hf
      refine mw_aload_n (x := (some a0)) dX2_readOnce_27 rfl ?_
      refine mw_iconst (v := 2) dX2_readOnce_28 (by decide) ?_
      obtain ⟨g11, e12, hf⟩ := ob hf
      obtain ⟨h9, e10, hf⟩ := ob hf
      refine ml_callV (ci := 2) (mc := 0) (ms := 0) (mc' := 0) (ms' := 0) [vi (2 : Int32)] dX2_readOnce_29 mk_X2_refuse lk_RX2_119 im_X2_refuse se_X2_refuse (by decide) e12 rfl (Nat.le_of_ble_eq_true rfl) (Nat.le_of_ble_eq_true rfl) (t_X2_refuse E _ e10 isR_rfl) ?_
      obtain rfl := y0 hf
      exact mw_return dX2_readOnce_32 rfl hk
    · rw [if_neg c8] at hf
      refine mw_aload_n (x := (some a0)) dX2_readOnce_16 rfl ?_
      obtain ⟨x13, e14, hf⟩ := ob hf
      refine ml_getI dX2_readOnce_17 fl_RX2_41 rfl e14 ?_
      refine mw_iload_n (x := x1) dX2_readOnce_20 rfl ?_
      refine mw_ishr dX2_readOnce_21 ?_
      refine mw_iconst (v := 1) dX2_readOnce_22 (by decide) ?_
      refine mw_iand dX2_readOnce_23 ?_
      refine mw_if_eq (tgt := 33) dX2_readOnce_24 rfl (fun c15 => ?_) (fun c15 => ?_)
      · rw [if_pos c15] at hf
        refine mw_aload_n (x := (some a0)) dX2_readOnce_33 rfl ?_
        refine mw_dupq dX2_readOnce_34 ?_
        obtain ⟨x16, e17, hf⟩ := ob hf
        refine ml_getI dX2_readOnce_35 fl_RX2_41 rfl e17 ?_
        refine mw_iconst (v := 1) dX2_readOnce_38 (by decide) ?_
        refine mw_iload_n (x := x1) dX2_readOnce_39 rfl ?_
        refine mw_ishl dX2_readOnce_40 ?_
        refine mw_ior dX2_readOnce_41 ?_
        obtain ⟨h18, e19, hf⟩ := ob hf
        refine ml_putI dX2_readOnce_42 fl_RX2_41 (Or.inl rfl) rfl rfl e19 ?_
        refine mw_aload_n (x := (some a0)) dX2_readOnce_45 rfl ?_
        obtain ⟨g22, e23, hf⟩ := ob hf
        obtain ⟨h20, e21, hf⟩ := ob hf
        refine ml_callV (ci := 2) (mc := 0) (ms := 0) (mc' := 0) (ms' := 0) [] dX2_readOnce_46 mk_X2_nextToken lk_RX2_50 im_X2_nextToken se_X2_nextToken (by decide) e23 rfl (Nat.le_of_ble_eq_true rfl) (Nat.le_of_ble_eq_true rfl) (t_X2_nextToken E _ e21 isR_rfl) ?_
        refine mw_iload_n (x := x1) dX2_readOnce_49 rfl ?_
        refine mw_iconst (v := 1) dX2_readOnce_50 (by decide) ?_
        refine mw_icmp_ne (tgt := 68) dX2_readOnce_51 rfl (fun c24 => ?_) (fun c24 => ?_)
        · rw [if_neg c24] at hf
          refine mw_iload_n (x := x1) dX2_readOnce_68 rfl ?_
          refine mw_iconst (v := 2) dX2_readOnce_69 (by decide) ?_
          refine mw_isub dX2_readOnce_70 ?_
          refine mw_istore_n dX2_readOnce_71 (by decide) rfl ?_
          refine mw_aload_n (x := (some a0)) dX2_readOnce_72 rfl ?_
          refine mw_gets0 dX2_readOnce_73 sl_RX2_150 ?_
          refine mw_iload_n (x := (x1 - (2 : Int32))) dX2_readOnce_76 rfl ?_
          obtain ⟨x27, h25, e26, hf⟩ := ob1 hf
          refine ml_callSN (mc := 0) (ms := 0) (mc' := 0) (ms' := 0) [vq (some 0), vi (x1 - (2 : Int32))] dX2_readOnce_77 mk_X8_at lk_RX2_153 st_X8_at rfl (Nat.le_of_ble_eq_true rfl) (Nat.le_of_ble_eq_true rfl) (t_X8_at E _ e26 isR_rfl) ?_
          refine mw_gets1 dX2_readOnce_80 sl_RX2_157 ?_
          refine mw_iload_n (x := (x1 - (2 : Int32))) dX2_readOnce_83 rfl ?_
          obtain ⟨x30, h28, e29, hf⟩ := ob1 hf
          refine ml_callSN (mc := 0) (ms := 0) (mc' := 0) (ms' := 0) [vq (some 1), vi (x1 - (2 : Int32))] dX2_readOnce_84 mk_X8_at lk_RX2_153 st_X8_at rfl (Nat.le_of_ble_eq_true rfl) (Nat.le_of_ble_eq_true rfl) (t_X8_at E _ e29 isR_rfl) ?_
          obtain ⟨g33, e34, hf⟩ := ob hf
          obtain ⟨x35, h31, e32, hf⟩ := ob1 hf
          refine ml_callV (ci := 2) (mc := 0) (ms := 0) (mc' := 0) (ms' := 0) [vi x27, vi x30] dX2_readOnce_87 mk_X2_takeNumber lk_RX2_126 im_X2_takeNumber se_X2_takeNumber (by decide) e34 rfl (Nat.le_of_ble_eq_true rfl) (Nat.le_of_ble_eq_true rfl) (t_X2_takeNumber E _ e32 isR_rfl) ?_
          refine mw_istore dX2_readOnce_90 (by decide) rfl ?_
          refine mw_iload_n (x := (x1 - (2 : Int32))) dX2_readOnce_92 rfl ?_
          obtain ⟨h55, r56, hf⟩ := ob hf
          have J74 : MW E m_X2_readOnce (d + 203) 0 0 113 [some (vq (some a0)), none, none, none, none] [] h55 K := by
            refine mw_aload_n (x := (some a0)) dX2_readOnce_113 rfl ?_
            refine mw_bipush (v := 59) dX2_readOnce_114 (by decide) ?_
            obtain ⟨g59, e60, hf⟩ := ob hf
            obtain ⟨h57, e58, hf⟩ := ob hf
            refine ml_callV (ci := 2) (mc := 0) (ms := 0) (mc' := 0) (ms' := 0) [vi (59 : Int32)] dX2_readOnce_116 mk_X2_take lk_RX2_163 im_X2_take se_X2_take (by decide) e60 rfl (Nat.le_of_ble_eq_true rfl) (Nat.le_of_ble_eq_true rfl) (t_X2_take E _ e58 isR_rfl) ?_
            obtain rfl := y0 hf
            exact mw_return dX2_readOnce_119 rfl hk
          refine mw_if_lt (tgt := 113) dX2_readOnce_93 rfl (fun c36 => ?_) (fun c36 => ?_)
          · rw [if_pos c36] at r56
            obtain rfl := y0 r56
            exact MW.sub (subL_s (subL_n (subL_n (subL_n (subL_n subL_nil))))) (id J74)
          · rw [if_neg c36] at r56
            refine mw_iload_n (x := (x1 - (2 : Int32))) dX2_readOnce_96 rfl ?_
            refine mw_aload_n (x := q1) dX2_readOnce_97 rfl ?_
            obtain ⟨x46, e47, r56⟩ := ob r56
            refine ml_getQ dX2_readOnce_98 fl_RX2_160 rfl e47 ?_
            obtain ⟨x48, e49, r56⟩ := ob r56
            refine ml_alen dX2_readOnce_101 e49 (by decide) (by decide) ?_
            refine mw_icmp_ge (tgt := 113) dX2_readOnce_102 rfl (fun c50 => ?_) (fun c50 => ?_)
            · rw [if_pos c50] at r56
              obtain rfl := y0 r56
              exact MW.sub (subL_s (subL_n (subL_n (subL_n (subL_n subL_nil))))) (id J74)
            · rw [if_neg c50] at r56
              refine mw_aload_n (x := q1) dX2_readOnce_105 rfl ?_
              obtain ⟨x51, e52, r56⟩ := ob r56
              refine ml_getQ dX2_readOnce_106 fl_RX2_160 rfl e52 ?_
              refine mw_iload_n (x := (x1 - (2 : Int32))) dX2_readOnce_109 rfl ?_
              refine mw_iload (x := x35) dX2_readOnce_110 rfl ?_
              obtain ⟨h53, e54, r56⟩ := ob r56
              refine ml_iast dX2_readOnce_112 e54 ?_
              obtain rfl := y0 r56
              exact MW.sub (subL_s (subL_n (subL_n (subL_n (subL_n subL_nil))))) (id J74)
        · exact absurd c24 (hw _ e2)
      · rw [if_neg c15] at hf
        refine mw_aload_n (x := (some a0)) dX2_readOnce_27 rfl ?_
        refine mw_iconst (v := 2) dX2_readOnce_28 (by decide) ?_
        obtain ⟨g72, e73, hf⟩ := ob hf
        obtain ⟨h70, e71, hf⟩ := ob hf
        refine ml_callV (ci := 2) (mc := 0) (ms := 0) (mc' := 0) (ms' := 0) [vi (2 : Int32)] dX2_readOnce_29 mk_X2_refuse lk_RX2_119 im_X2_refuse se_X2_refuse (by decide) e73 rfl (Nat.le_of_ble_eq_true rfl) (Nat.le_of_ble_eq_true rfl) (t_X2_refuse E _ e71 isR_rfl) ?_
        obtain rfl := y0 hf
        exact mw_return dX2_readOnce_32 rfl hk
def pb (b : Nat) : Option Nat := match b with
  | 0 => none
  | b + 1 => some b
theorem pb_of {b b2 : Nat} (e : pb b = some b2) : b = b2 + 1 := by
  cases b with
  | zero => cases e
  | succ b => cases e; rfl
def f_X2_readTape_L48 : Nat → Nat → Nat → Option Nat → Int32 → Hp → Option ((Hp))
  | 0, _, _, _, _, _ => none
  | n + 1, b, a0, q1, v2, h =>
    if (900 : Int32) ≤ v2 then
      some h
    else
      (getI h (some a0) 2 12).bind fun x26 =>
      if x26 = (0 : Int32) then
        (getI h (some a0) 2 7).bind fun x29 =>
        if x29 = (25 : Int32) then
          some h
        else
          (getI h (some a0) 2 7).bind fun x32 =>
          b1 ((if x32 = (0 : Int32) then
              (pb b).bind fun k1 =>
              (rc h (some a0) 2).bind fun g49 =>
              (f_X2_readCounts g49 q1 h).bind fun h47 =>
              some (k1, h47)
            else if x32 = (1 : Int32) then
              (pb b).bind fun k1 =>
              (rc h (some a0) 2).bind fun g45 =>
              (f_X2_readOnce g45 q1 h).bind fun h43 =>
              some (k1, h43)
            else
              (rc h (some a0) 2).bind fun g45 =>
              (f_X2_readOnce g45 q1 h).bind fun h43 =>
              some (b, h43) : Option (Nat × Hp))) fun b2 h51 =>
          (getI h51 q1 0 5).bind fun x53 =>
          (putI h51 q1 0 5 (x53 + (1 : Int32))).bind fun h55 =>
          f_X2_readTape_L48 n b2 a0 q1 (v2 + 1) h55
      else
        some h
def f_X2_readTape (a0 : Nat) (h : Hp) : Option (Option Nat × Hp) :=
  (rc h (some a0) 2).bind fun g3 =>
  (f_X2_splitTape g3 h).bind fun h1 =>
  (putI h1 (some a0) 2 1 0).bind fun h5 =>
  (putI h5 (some a0) 2 10 0).bind fun h7 =>
  (putI h7 (some a0) 2 11 0).bind fun h9 =>
  (putI h9 (some a0) 2 12 0).bind fun h11 =>
  (putI h11 (some a0) 2 13 (-1)).bind fun h13 =>
  (putI h13 (some a0) 2 6 (-1)).bind fun h15 =>
  (rc (nw h15 0 0) (some h15.1.length) 0).bind fun g19 =>
  (f_X0_init g19 (nw h15 0 0)).bind fun h17 =>
  (rc h17 (some a0) 2).bind fun g23 =>
  (f_X2_nextToken g23 h17).bind fun h21 =>
  (f_X2_readTape_L48 fu 12 a0 (some h15.1.length) 0 h21).bind fun h57 =>
  some ((some h15.1.length), h57)
set_option maxHeartbeats 4000000 in
theorem tl_X2_readTape_48 (E : En) (d : Nat) {K : Option Vv → Hp → Prop} : ∀ (n : Nat) (b : Nat) (a0 : Nat) (q1 : Option Nat) (v2 : Int32) (h : Hp) (hz : Hp), f_X2_readTape_L48 n b a0 q1 v2 h = some hz → MW E m_X2_readTape (d + 204) 0 0 107 [none, some (vq q1), none] [] hz K → MW E m_X2_readTape (d + 204) (2 * b) (903 * b) 48 [some (vq (some a0)), some (vq q1), some (vi v2)] [] h K := by
  intro n
  induction n with
  | zero => intro b a0 q1 v2 h hz hf; exact nomatch (show none = some _ from hf)
  | succ n ih =>
    intro b a0 q1 v2 h hz hf hX107
    rw [f_X2_readTape_L48] at hf
    refine mw_iload_n (x := v2) dX2_readTape_48 rfl ?_
    refine mw_sipush (v := 900) dX2_readTape_49 (by decide) ?_
    refine mw_icmp_ge (tgt := 107) dX2_readTape_52 rfl (fun c25 => ?_) (fun c25 => ?_)
    · rw [if_pos c25] at hf
      obtain rfl := y0 hf
      exact MW.sub (subL_n (subL_s (subL_n subL_nil))) (MW.more (Nat.le_refl _) (Nat.zero_le _) (Nat.zero_le _) hX107)
    · rw [if_neg c25] at hf
      refine mw_aload_n (x := (some a0)) dX2_readTape_55 rfl ?_
      obtain ⟨x26, e27, hf⟩ := ob hf
      refine ml_getI dX2_readTape_56 fl_RX2_25 rfl e27 ?_
      refine mw_if_ne (tgt := 107) dX2_readTape_59 rfl (fun c28 => ?_) (fun c28 => ?_)
      · rw [if_neg c28] at hf
        obtain rfl := y0 hf
        exact MW.sub (subL_n (subL_s (subL_n subL_nil))) (MW.more (Nat.le_refl _) (Nat.zero_le _) (Nat.zero_le _) hX107)
      · rw [if_pos c28] at hf
        refine mw_aload_n (x := (some a0)) dX2_readTape_62 rfl ?_
        obtain ⟨x29, e30, hf⟩ := ob hf
        refine ml_getI dX2_readTape_63 fl_RX2_53 rfl e30 ?_
        refine mw_bipush (v := 25) dX2_readTape_66 (by decide) ?_
        refine mw_icmp_eq (tgt := 107) dX2_readTape_68 rfl (fun c31 => ?_) (fun c31 => ?_)
        · rw [if_pos c31] at hf
          obtain rfl := y0 hf
          exact MW.sub (subL_n (subL_s (subL_n subL_nil))) (MW.more (Nat.le_refl _) (Nat.zero_le _) (Nat.zero_le _) hX107)
        · rw [if_neg c31] at hf
          refine mw_aload_n (x := (some a0)) dX2_readTape_71 rfl ?_
          obtain ⟨x32, e33, hf⟩ := ob hf
          refine ml_getI dX2_readTape_72 fl_RX2_53 rfl e33 ?_
          obtain ⟨b2, h51, r52, hf⟩ := ob1 hf
          have J60 : MW E m_X2_readTape (d + 204) (2 * b2) (903 * b2) 91 [some (vq (some a0)), some (vq q1), some (vi v2)] [] h51 K := by
            refine mw_aload_n (x := q1) dX2_readTape_91 rfl ?_
            refine mw_dupq dX2_readTape_92 ?_
            obtain ⟨x53, e54, hf⟩ := ob hf
            refine ml_getI dX2_readTape_93 fl_RX2_63 rfl e54 ?_
            refine mw_iconst (v := 1) dX2_readTape_96 (by decide) ?_
            refine mw_iadd dX2_readTape_97 ?_
            obtain ⟨h55, e56, hf⟩ := ob hf
            refine ml_putI dX2_readTape_98 fl_RX2_63 (Or.inl rfl) rfl rfl e56 ?_
            refine mw_iinc (x := v2) (v := v2 + 1) dX2_readTape_101 rfl rfl (by decide) rfl ?_
            refine mw_goto (tgt := 48) dX2_readTape_104 rfl ?_
            exact MW.sub (subL_s (subL_s (subL_s subL_nil))) (ih _ _ _ _ _ _ hf hX107)
          refine mw_if_ne (tgt := 86) dX2_readTape_75 rfl (fun c34 => ?_) (fun c34 => ?_)
          · rw [if_neg c34] at r52
            refine mw_aload_n (x := (some a0)) dX2_readTape_86 rfl ?_
            refine mw_aload_n (x := q1) dX2_readTape_87 rfl ?_
            by_cases c35 : x32 = 1
            · rw [if_pos c35] at r52
              obtain ⟨k1, ek, r52⟩ := ob r52
              obtain ⟨g45, e46, r52⟩ := ob r52
              obtain ⟨h43, e44, r52⟩ := ob r52
              have hb := pb_of ek
              refine MW.more (mc' := 2 * k1 + 1) (ms' := 903 * k1 + 900) (Nat.le_refl _) (by omega) (by omega) ?_
              refine ml_callV (ci := 2) (mc := 2 * k1) (ms := 903 * k1) (mc' := 1) (ms' := 900) [vq q1] dX2_readTape_88 mk_X2_readOnce lk_RX2_60 im_X2_readOnce se_X2_readOnce (by decide) e46 rfl (Nat.le_of_ble_eq_true rfl) (Nat.le_of_ble_eq_true rfl) (t_X2_readOnce E _ e44 isR_rfl) ?_
              obtain ⟨rfl, rfl⟩ := y1 r52
              exact MW.sub (subL_s (subL_s (subL_s subL_nil))) J60
            · rw [if_neg c35] at r52
              obtain ⟨g45, e46, r53⟩ := ob r52
              obtain ⟨h43, e44, r54⟩ := ob r53
              have hg := (rc_of e46).1
              have hg2 : a0 = g45 := Option.some.inj hg
              subst hg2
              refine ml_callV (ci := 2) (mc := 2 * b) (ms := 903 * b) (mc' := 0) (ms' := 0) [vq q1] dX2_readTape_88 mk_X2_readOnce lk_RX2_60 im_X2_readOnce se_X2_readOnce (by decide) e46 rfl (Nat.le_of_ble_eq_true rfl) (Nat.le_of_ble_eq_true rfl) (t_X2_readOnce_free E _ e44 (fun x hx => by rw [e33] at hx; cases hx; exact c35) isR_rfl) ?_
              obtain ⟨rfl, rfl⟩ := y1 r54
              exact MW.sub (subL_s (subL_s (subL_s subL_nil))) J60
          · rw [if_pos c34] at r52
            refine mw_aload_n (x := (some a0)) dX2_readTape_78 rfl ?_
            refine mw_aload_n (x := q1) dX2_readTape_79 rfl ?_
            obtain ⟨k1, ek, r52⟩ := ob r52
            obtain ⟨g49, e50, r52⟩ := ob r52
            obtain ⟨h47, e48, r52⟩ := ob r52
            have hb := pb_of ek
            refine MW.more (mc' := 2 * k1 + 2) (ms' := 903 * k1 + 903) (Nat.le_refl _) (by omega) (by omega) ?_
            refine ml_callV (ci := 2) (mc := 2 * k1) (ms := 903 * k1) (mc' := 2) (ms' := 903) [vq q1] dX2_readTape_80 mk_X2_readCounts lk_RX2_56 im_X2_readCounts se_X2_readCounts (by decide) e50 rfl (Nat.le_of_ble_eq_true rfl) (Nat.le_of_ble_eq_true rfl) (t_X2_readCounts E _ e48 isR_rfl) ?_
            refine mw_goto (tgt := 91) dX2_readTape_83 rfl ?_
            obtain ⟨rfl, rfl⟩ := y1 r52
            exact MW.sub (subL_s (subL_s (subL_s subL_nil))) J60
set_option maxHeartbeats 4000000 in
theorem t_X2_readTape (E : En) (d : Nat) {a0 : Nat} {h h' : Hp} {r : Option Nat} {K : Option Vv → Hp → Prop} (hf : f_X2_readTape a0 h = some (r, h')) (hk : K (some (vq r)) h') : MC E m_X2_readTape (d + 204) 28 10859 [vq (some a0)] h K := by
  unfold f_X2_readTape at hf
  show MW E m_X2_readTape (d + 204) 28 10859 0 [some (vq (some a0)), none, none] [] h K
  refine mw_aload_n (x := (some a0)) dX2_readTape_0 rfl ?_
  obtain ⟨g3, e4, hf⟩ := ob hf
  obtain ⟨h1, e2, hf⟩ := ob hf
  refine ml_callV (ci := 2) (mc := 28) (ms := 10859) (mc' := 0) (ms' := 0) [] dX2_readTape_1 mk_X2_splitTape lk_RX2_35 im_X2_splitTape se_X2_splitTape (by decide) e4 rfl (Nat.le_of_ble_eq_true rfl) (Nat.le_of_ble_eq_true rfl) (t_X2_splitTape E _ e2 isR_rfl) ?_
  refine mw_aload_n (x := (some a0)) dX2_readTape_4 rfl ?_
  refine mw_iconst (v := 0) dX2_readTape_5 (by decide) ?_
  obtain ⟨h5, e6, hf⟩ := ob hf
  refine ml_putI dX2_readTape_6 fl_RX2_32 (Or.inl rfl) rfl rfl e6 ?_
  refine mw_aload_n (x := (some a0)) dX2_readTape_9 rfl ?_
  refine mw_iconst (v := 0) dX2_readTape_10 (by decide) ?_
  obtain ⟨h7, e8, hf⟩ := ob hf
  refine ml_putI dX2_readTape_11 fl_RX2_38 (Or.inl rfl) rfl rfl e8 ?_
  refine mw_aload_n (x := (some a0)) dX2_readTape_14 rfl ?_
  refine mw_iconst (v := 0) dX2_readTape_15 (by decide) ?_
  obtain ⟨h9, e10, hf⟩ := ob hf
  refine ml_putI dX2_readTape_16 fl_RX2_41 (Or.inl rfl) rfl rfl e10 ?_
  refine mw_aload_n (x := (some a0)) dX2_readTape_19 rfl ?_
  refine mw_iconst (v := 0) dX2_readTape_20 (by decide) ?_
  obtain ⟨h11, e12, hf⟩ := ob hf
  refine ml_putI dX2_readTape_21 fl_RX2_25 (Or.inl rfl) rfl rfl e12 ?_
  refine mw_aload_n (x := (some a0)) dX2_readTape_24 rfl ?_
  refine mw_iconst (v := (-1)) dX2_readTape_25 (by decide) ?_
  obtain ⟨h13, e14, hf⟩ := ob hf
  refine ml_putI dX2_readTape_26 fl_RX2_29 (Or.inl rfl) rfl rfl e14 ?_
  refine mw_aload_n (x := (some a0)) dX2_readTape_29 rfl ?_
  refine mw_iconst (v := (-1)) dX2_readTape_30 (by decide) ?_
  obtain ⟨h15, e16, hf⟩ := ob hf
  refine ml_putI dX2_readTape_31 fl_RX2_44 (Or.inl rfl) rfl rfl e16 ?_
  refine mw_new (ci := 0) (mc := 27) (ms := 10853) dX2_readTape_34 (by decide) cl_RX2_47 it_0 in_0 ?_
  refine mw_dupq dX2_readTape_37 ?_
  obtain ⟨g19, e20, hf⟩ := ob hf
  obtain ⟨h17, e18, hf⟩ := ob hf
  refine ml_callIN (mc := 24) (ms := 10836) (mc' := 3) (ms' := 17) [] dX2_readTape_38 mk_X0_init rfl lk_RX2_49 im_X0_init rfl e20 rfl (Nat.le_of_ble_eq_true rfl) (Nat.le_of_ble_eq_true rfl) (t_X0_init E _ e18 isR_rfl) ?_
  refine mw_astore_n dX2_readTape_41 (by decide) rfl ?_
  refine mw_aload_n (x := (some a0)) dX2_readTape_42 rfl ?_
  obtain ⟨g23, e24, hf⟩ := ob hf
  obtain ⟨h21, e22, hf⟩ := ob hf
  refine ml_callV (ci := 2) (mc := 24) (ms := 10836) (mc' := 0) (ms' := 0) [] dX2_readTape_43 mk_X2_nextToken lk_RX2_50 im_X2_nextToken se_X2_nextToken (by decide) e24 rfl (Nat.le_of_ble_eq_true rfl) (Nat.le_of_ble_eq_true rfl) (t_X2_nextToken E _ e22 isR_rfl) ?_
  refine mw_iconst (v := 0) dX2_readTape_46 (by decide) ?_
  refine mw_istore_n dX2_readTape_47 (by decide) rfl ?_
  obtain ⟨h57, e58, hf⟩ := ob hf
  refine MW.sub (subL_s (subL_s (subL_s subL_nil))) (tl_X2_readTape_48 E d _ 12 _ _ _ _ _ e58 ?_)
  refine mw_aload_n (x := (some h15.1.length)) dX2_readTape_107 rfl ?_
  obtain ⟨rfl, rfl⟩ := y1 hf
  exact mw_areturn dX2_readTape_108 rfl (Or.inl ⟨_, rfl⟩) hk
def f_X8_act (a0 : Nat) (v1 : Int32) (h : Hp) : Option (Int32 × Hp) :=
  if v1 < (0 : Int32) then
    some ((-2), h)
  else
    (getQ h (some a0) 7 1).bind fun x2 =>
    (aln h x2 13).bind fun x4 =>
    if v1 < x4 then
      (getQ h (some a0) 7 0).bind fun x7 =>
      (rc h x7 2).bind fun g11 =>
      b1 (f_X2_readTape g11 h) fun x13 h9 =>
      (getQ h9 (some a0) 7 0).bind fun x14 =>
      (getI h9 x14 2 12).bind fun x16 =>
      if x16 = (0 : Int32) then
        (getQ h9 (some a0) 7 1).bind fun x19 =>
        (wrQ h9 x19 13 v1 x13).bind fun h21 =>
        (getI h21 x13 0 5).bind fun x23 =>
        some (x23, h21)
      else
        some ((-1), h9)
    else
      some ((-2), h)
set_option maxHeartbeats 4000000 in
theorem t_X8_act (E : En) (d : Nat) {a0 : Nat} {v1 : Int32} {h h' : Hp} {r : Int32} {K : Option Vv → Hp → Prop} (hf : f_X8_act a0 v1 h = some (r, h')) (hk : K (some (vi r)) h') : MC E m_X8_act (d + 205) 28 10859 [vq (some a0), vi v1] h K := by
  unfold f_X8_act at hf
  show MW E m_X8_act (d + 205) 28 10859 0 [some (vq (some a0)), some (vi v1), none] [] h K
  refine mw_iload_n (x := v1) dX8_act_0 rfl ?_
  refine mw_if_lt (tgt := 13) dX8_act_1 rfl (fun c1 => ?_) (fun c1 => ?_)
  · rw [if_pos c1] at hf
    refine mw_bipush (v := (-2)) dX8_act_13 (by decide) ?_
    obtain ⟨rfl, rfl⟩ := y1 hf
    exact mw_ireturn dX8_act_15 rfl rfl hk
  · rw [if_neg c1] at hf
    refine mw_iload_n (x := v1) dX8_act_4 rfl ?_
    refine mw_aload_n (x := (some a0)) dX8_act_5 rfl ?_
    obtain ⟨x2, e3, hf⟩ := ob hf
    refine ml_getQ dX8_act_6 fl_RX8_18 rfl e3 ?_
    obtain ⟨x4, e5, hf⟩ := ob hf
    refine ml_alen dX8_act_9 e5 (by decide) (by decide) ?_
    refine mw_icmp_lt (tgt := 16) dX8_act_10 rfl (fun c6 => ?_) (fun c6 => ?_)
    · rw [if_pos c6] at hf
      refine mw_aload_n (x := (some a0)) dX8_act_16 rfl ?_
      obtain ⟨x7, e8, hf⟩ := ob hf
      refine ml_getQ dX8_act_17 fl_RX8_10 rfl e8 ?_
      obtain ⟨g11, e12, hf⟩ := ob hf
      obtain ⟨x13, h9, e10, hf⟩ := ob1 hf
      refine ml_callV (ci := 2) (mc := 0) (ms := 0) (mc' := 28) (ms' := 10859) [] dX8_act_20 mk_X2_readTape lk_RX8_68 im_X2_readTape se_X2_readTape (by decide) e12 rfl (Nat.le_of_ble_eq_true rfl) (Nat.le_of_ble_eq_true rfl) (t_X2_readTape E _ e10 isR_rfl) ?_
      refine mw_astore_n dX8_act_23 (by decide) rfl ?_
      refine mw_aload_n (x := (some a0)) dX8_act_24 rfl ?_
      obtain ⟨x14, e15, hf⟩ := ob hf
      refine ml_getQ dX8_act_25 fl_RX8_10 rfl e15 ?_
      obtain ⟨x16, e17, hf⟩ := ob hf
      refine ml_getI dX8_act_28 fl_RX8_72 rfl e17 ?_
      refine mw_if_eq (tgt := 36) dX8_act_31 rfl (fun c18 => ?_) (fun c18 => ?_)
      · rw [if_pos c18] at hf
        refine mw_aload_n (x := (some a0)) dX8_act_36 rfl ?_
        obtain ⟨x19, e20, hf⟩ := ob hf
        refine ml_getQ dX8_act_37 fl_RX8_18 rfl e20 ?_
        refine mw_iload_n (x := v1) dX8_act_40 rfl ?_
        refine mw_aload_n (x := x13) dX8_act_41 rfl ?_
        obtain ⟨h21, e22, hf⟩ := ob hf
        refine ml_aast dX8_act_42 e22 (by decide) (by decide) ?_
        refine mw_aload_n (x := x13) dX8_act_43 rfl ?_
        obtain ⟨x23, e24, hf⟩ := ob hf
        refine ml_getI dX8_act_44 fl_RX8_75 rfl e24 ?_
        obtain ⟨rfl, rfl⟩ := y1 hf
        exact mw_ireturn dX8_act_47 rfl rfl hk
      · rw [if_neg c18] at hf
        refine mw_iconst (v := (-1)) dX8_act_34 (by decide) ?_
        obtain ⟨rfl, rfl⟩ := y1 hf
        exact mw_ireturn dX8_act_35 rfl rfl hk
    · rw [if_neg c6] at hf
      refine mw_bipush (v := (-2)) dX8_act_13 (by decide) ?_
      obtain ⟨rfl, rfl⟩ := y1 hf
      exact mw_ireturn dX8_act_15 rfl rfl hk
