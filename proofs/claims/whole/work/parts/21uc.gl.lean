/-! what each instruction does, held back -/
section GL
variable {sa : aS} {F : aF} {N S : Nat} {rt : Option FieldType} {P : aK} {Q : aQ} {L : aL} {st : List Value} {h : aH}
theorem g106_1 : exq sa F N S rt cd106 P Q 1 L st h = (tR st fun a s => optW (hO h a 6) (fun fs => optW (fs[2]?) (fun v => P 4 L (v :: s) h) wt) wt) := e106_1
theorem g106_4 : exq sa F N S rt cd106 P Q 4 L st h = (ivVW F 16 1 2 st h (fun r s h' => P 7 L (pu r s) h') wt) := e106_4
theorem g106_7 : exq sa F N S rt cd106 P Q 7 L st h = (tI st fun a s => brW (a = 0) (P 10 L s h) (P 13 L s h) wt wt) := e106_7
theorem g106_53 : exq sa F N S rt cd106 P Q 53 L st h = (tR st fun a s => optW (hO h a 6) (fun fs => optW (fs[2]?) (fun v => P 56 L (v :: s) h) wt) wt) := e106_53
theorem g106_57 : exq sa F N S rt cd106 P Q 57 L st h = (ivVW F 22 2 2 st h (fun r s h' => P 60 L (pu r s) h') wt) := e106_57
theorem g106_62 : exq sa F N S rt cd106 P Q 62 L st h = (tR st fun a s => optW (hO h a 6) (fun fs => optW (fs[2]?) (fun v => P 65 L (v :: s) h) wt) wt) := e106_62
theorem g106_66 : exq sa F N S rt cd106 P Q 66 L st h = (ivVW F 22 2 2 st h (fun r s h' => P 69 L (pu r s) h') wt) := e106_66
theorem g106_71 : exq sa F N S rt cd106 P Q 71 L st h = (tR st fun a s => optW (hO h a 6) (fun fs => optW (fs[2]?) (fun v => P 74 L (v :: s) h) wt) wt) := e106_71
theorem g106_74 : exq sa F N S rt cd106 P Q 74 L st h = (tR st fun a s => optW (hO h a 2) (fun fs => optW (fs[13]?) (fun v => P 77 L (v :: s) h) wt) wt) := e106_74
theorem g106_79 : exq sa F N S rt cd106 P Q 79 L st h = (tR st fun a s => optW (hO h a 6) (fun fs => optW (fs[2]?) (fun v => P 82 L (v :: s) h) wt) wt) := e106_79
theorem g106_82 : exq sa F N S rt cd106 P Q 82 L st h = (ivVW F 21 1 2 st h (fun r s h' => P 85 L (pu r s) h') wt) := e106_82
theorem g106_87 : exq sa F N S rt cd106 P Q 87 L st h = (tR st fun a s => optW (hO h a 6) (fun fs => optW (fs[2]?) (fun v => P 90 L (v :: s) h) wt) wt) := e106_87
theorem g106_90 : exq sa F N S rt cd106 P Q 90 L st h = (tR st fun a s => optW (hO h a 2) (fun fs => optW (fs[0]?) (fun v => P 93 L (v :: s) h) wt) wt) := e106_90
theorem g106_95 : exq sa F N S rt cd106 P Q 95 L st h = (tR st fun a s => optW (hO h a 6) (fun fs => optW (fs[2]?) (fun v => P 98 L (v :: s) h) wt) wt) := e106_95
theorem g106_98 : exq sa F N S rt cd106 P Q 98 L st h = (tR st fun a s => optW (hO h a 2) (fun fs => optW (fs[1]?) (fun v => P 101 L (v :: s) h) wt) wt) := e106_98
theorem g107_1 : exq sa F N S rt cd107 P Q 1 L st h = (tR st fun a s => optW (hO h a 6) (fun fs => optW (fs[2]?) (fun v => P 4 L (v :: s) h) wt) wt) := e107_1
theorem g107_5 : exq sa F N S rt cd107 P Q 5 L st h = (ivVW F 17 2 2 st h (fun r s h' => P 8 L (pu r s) h') wt) := e107_5
theorem g107_8 : exq sa F N S rt cd107 P Q 8 L st h = (tI st fun a s => brW (a = 0) (P 28 L s h) (P 11 L s h) wt wt) := e107_8
theorem g107_15 : exq sa F N S rt cd107 P Q 15 L st h = (ivSW F 131 3 st h (fun r s h' => P 18 L (pu r s) h') wt) := e107_15
theorem g107_18 : exq sa F N S rt cd107 P Q 18 L st h = (tI st fun a s => brW (a = 0) (P 28 L s h) (P 21 L s h) wt wt) := e107_18
theorem g107_22 : exq sa F N S rt cd107 P Q 22 L st h = (ivSW F 132 1 st h (fun r s h' => P 25 L (pu r s) h') wt) := e107_22
theorem g107_25 : exq sa F N S rt cd107 P Q 25 L st h = (tI st fun a s => brW (a = 0) (P 28 L s h) (P 31 L s h) wt wt) := e107_25
theorem g107_32 : exq sa F N S rt cd107 P Q 32 L st h = (tR st fun a s => optW (hO h a 6) (fun fs => optW (fs[4]?) (fun v => P 35 L (v :: s) h) wt) wt) := e107_32
theorem g107_36 : exq sa F N S rt cd107 P Q 36 L st h = (tR st fun a s => optW (hO h a 6) (fun fs => optW (fs[2]?) (fun v => P 39 L (v :: s) h) wt) wt) := e107_36
theorem g107_40 : exq sa F N S rt cd107 P Q 40 L st h = (ivVW F 40 3 3 st h (fun r s h' => P 43 L (pu r s) h') wt) := e107_40
theorem g107_47 : exq sa F N S rt cd107 P Q 47 L st h = (tI st fun b s => tI s fun a s => brW (a = b) (P 50 L s h) (P 58 L s h) wt wt) := e107_47
theorem g107_52 : exq sa F N S rt cd107 P Q 52 L st h = (tR st fun a s => optW (hO h a 2) (fun fs => optW (fs[5]?) (fun v => P 55 L (v :: s) h) wt) wt) := e107_52
theorem g107_56 : exq sa F N S rt cd107 P Q 56 L st h = (aldW sa st h (fun v s => P 57 L (.int v :: s) h) wt) := e107_56
theorem g107_60 : exq sa F N S rt cd107 P Q 60 L st h = (tR st fun a s => optW (hO h a 2) (fun fs => optW (fs[7]?) (fun v => P 63 L (v :: s) h) wt) wt) := e107_60
theorem g107_64 : exq sa F N S rt cd107 P Q 64 L st h = (aldW sa st h (fun v s => P 65 L (.int v :: s) h) wt) := e107_64
theorem g107_66 : exq sa F N S rt cd107 P Q 66 L st h = (tI st fun b s => tI s fun a s => brW (a = b) (P 69 L s h) (P 74 L s h) wt wt) := e107_66
theorem g107_76 : exq sa F N S rt cd107 P Q 76 L st h = (tR st fun a s => optW (hO h a 2) (fun fs => optW (fs[6]?) (fun v => P 79 L (v :: s) h) wt) wt) := e107_76
theorem g107_80 : exq sa F N S rt cd107 P Q 80 L st h = (aldW sa st h (fun v s => P 81 L (.int v :: s) h) wt) := e107_80
theorem g108_1 : exq sa F N S rt cd108 P Q 1 L st h = (tR st fun a s => optW (hO h a 6) (fun fs => optW (fs[2]?) (fun v => P 4 L (v :: s) h) wt) wt) := e108_1
theorem g108_5 : exq sa F N S rt cd108 P Q 5 L st h = (ivVW F 18 2 2 st h (fun r s h' => P 8 L (pu r s) h') wt) := e108_5
theorem g108_8 : exq sa F N S rt cd108 P Q 8 L st h = (tI st fun a s => brW (a = 0) (P 21 L s h) (P 11 L s h) wt wt) := e108_8
theorem g108_15 : exq sa F N S rt cd108 P Q 15 L st h = (ivSW F 131 3 st h (fun r s h' => P 18 L (pu r s) h') wt) := e108_15
theorem g108_18 : exq sa F N S rt cd108 P Q 18 L st h = (tI st fun a s => brW (a = 0) (P 21 L s h) (P 24 L s h) wt wt) := e108_18
theorem g108_25 : exq sa F N S rt cd108 P Q 25 L st h = (tR st fun a s => optW (hO h a 6) (fun fs => optW (fs[4]?) (fun v => P 28 L (v :: s) h) wt) wt) := e108_25
theorem g108_29 : exq sa F N S rt cd108 P Q 29 L st h = (tR st fun a s => optW (hO h a 6) (fun fs => optW (fs[2]?) (fun v => P 32 L (v :: s) h) wt) wt) := e108_29
theorem g108_33 : exq sa F N S rt cd108 P Q 33 L st h = (ivVW F 40 3 3 st h (fun r s h' => P 36 L (pu r s) h') wt) := e108_33
theorem g108_39 : exq sa F N S rt cd108 P Q 39 L st h = (ivVW F 20 2 2 st h (fun r s h' => P 42 L (pu r s) h') wt) := e108_39
theorem g108_42 : exq sa F N S rt cd108 P Q 42 L st h = (tI st fun a s => brW (a = 0) (P 50 L s h) (P 45 L s h) wt wt) := e108_42
theorem g108_51 : exq sa F N S rt cd108 P Q 51 L st h = (tR st fun a s => optW (hO h a 2) (fun fs => optW (fs[10]?) (fun v => P 54 L (v :: s) h) wt) wt) := e108_51
theorem g108_55 : exq sa F N S rt cd108 P Q 55 L st h = (aldW sa st h (fun v s => P 56 L (.int v :: s) h) wt) := e108_55
theorem g109_1 : exq sa F N S rt cd109 P Q 1 L st h = (tR st fun a s => optW (hO h a 6) (fun fs => optW (fs[2]?) (fun v => P 4 L (v :: s) h) wt) wt) := e109_1
theorem g109_5 : exq sa F N S rt cd109 P Q 5 L st h = (ivVW F 18 2 2 st h (fun r s h' => P 8 L (pu r s) h') wt) := e109_5
theorem g109_8 : exq sa F N S rt cd109 P Q 8 L st h = (tI st fun a s => brW (a = 0) (P 26 L s h) (P 11 L s h) wt wt) := e109_8
theorem g109_12 : exq sa F N S rt cd109 P Q 12 L st h = (tR st fun a s => optW (hO h a 6) (fun fs => optW (fs[4]?) (fun v => P 15 L (v :: s) h) wt) wt) := e109_12
theorem g109_16 : exq sa F N S rt cd109 P Q 16 L st h = (tR st fun a s => optW (hO h a 6) (fun fs => optW (fs[2]?) (fun v => P 19 L (v :: s) h) wt) wt) := e109_16
theorem g109_20 : exq sa F N S rt cd109 P Q 20 L st h = (ivVW F 41 3 3 st h (fun r s h' => P 23 L (pu r s) h') wt) := e109_20
theorem g110_1 : exq sa F N S rt cd110 P Q 1 L st h = (tR st fun a s => optW (hO h a 6) (fun fs => optW (fs[2]?) (fun v => P 4 L (v :: s) h) wt) wt) := e110_1
theorem g110_5 : exq sa F N S rt cd110 P Q 5 L st h = (ivVW F 17 2 2 st h (fun r s h' => P 8 L (pu r s) h') wt) := e110_5
theorem g110_8 : exq sa F N S rt cd110 P Q 8 L st h = (tI st fun a s => brW (a = 0) (P 26 L s h) (P 11 L s h) wt wt) := e110_8
theorem g110_12 : exq sa F N S rt cd110 P Q 12 L st h = (tR st fun a s => optW (hO h a 6) (fun fs => optW (fs[4]?) (fun v => P 15 L (v :: s) h) wt) wt) := e110_12
theorem g110_16 : exq sa F N S rt cd110 P Q 16 L st h = (tR st fun a s => optW (hO h a 6) (fun fs => optW (fs[2]?) (fun v => P 19 L (v :: s) h) wt) wt) := e110_16
theorem g110_20 : exq sa F N S rt cd110 P Q 20 L st h = (ivVW F 43 3 3 st h (fun r s h' => P 23 L (pu r s) h') wt) := e110_20
theorem g111_1 : exq sa F N S rt cd111 P Q 1 L st h = (tR st fun a s => optW (hO h a 6) (fun fs => optW (fs[2]?) (fun v => P 4 L (v :: s) h) wt) wt) := e111_1
theorem g111_4 : exq sa F N S rt cd111 P Q 4 L st h = (ivVW F 16 1 2 st h (fun r s h' => P 7 L (pu r s) h') wt) := e111_4
theorem g111_7 : exq sa F N S rt cd111 P Q 7 L st h = (tI st fun a s => brW (a = 0) (P 10 L s h) (P 13 L s h) wt wt) := e111_7
theorem g111_14 : exq sa F N S rt cd111 P Q 14 L st h = (ivSW F 132 1 st h (fun r s h' => P 17 L (pu r s) h') wt) := e111_14
theorem g111_17 : exq sa F N S rt cd111 P Q 17 L st h = (tI st fun a s => brW (a = 0) (P 35 L s h) (P 20 L s h) wt wt) := e111_17
theorem g111_21 : exq sa F N S rt cd111 P Q 21 L st h = (tR st fun a s => optW (hO h a 6) (fun fs => optW (fs[4]?) (fun v => P 24 L (v :: s) h) wt) wt) := e111_21
theorem g111_25 : exq sa F N S rt cd111 P Q 25 L st h = (tR st fun a s => optW (hO h a 6) (fun fs => optW (fs[2]?) (fun v => P 28 L (v :: s) h) wt) wt) := e111_25
theorem g111_29 : exq sa F N S rt cd111 P Q 29 L st h = (ivVW F 44 3 3 st h (fun r s h' => P 32 L (pu r s) h') wt) := e111_29
theorem g112_1 : exq sa F N S rt cd112 P Q 1 L st h = (tR st fun a s => optW (hO h a 6) (fun fs => optW (fs[2]?) (fun v => P 4 L (v :: s) h) wt) wt) := e112_1
theorem g112_4 : exq sa F N S rt cd112 P Q 4 L st h = (ivVW F 16 1 2 st h (fun r s h' => P 7 L (pu r s) h') wt) := e112_4
theorem g112_7 : exq sa F N S rt cd112 P Q 7 L st h = (tI st fun a s => brW (a = 0) (P 10 L s h) (P 13 L s h) wt wt) := e112_7
theorem g112_17 : exq sa F N S rt cd112 P Q 17 L st h = (ivSW F 131 3 st h (fun r s h' => P 20 L (pu r s) h') wt) := e112_17
theorem g112_20 : exq sa F N S rt cd112 P Q 20 L st h = (tI st fun a s => brW (a = 0) (P 46 L s h) (P 23 L s h) wt wt) := e112_20
theorem g112_24 : exq sa F N S rt cd112 P Q 24 L st h = (ivSW F 132 1 st h (fun r s h' => P 27 L (pu r s) h') wt) := e112_24
theorem g112_27 : exq sa F N S rt cd112 P Q 27 L st h = (tI st fun a s => brW (a = 0) (P 46 L s h) (P 30 L s h) wt wt) := e112_27
theorem g112_31 : exq sa F N S rt cd112 P Q 31 L st h = (tR st fun a s => optW (hO h a 6) (fun fs => optW (fs[4]?) (fun v => P 34 L (v :: s) h) wt) wt) := e112_31
theorem g112_35 : exq sa F N S rt cd112 P Q 35 L st h = (tR st fun a s => optW (hO h a 6) (fun fs => optW (fs[2]?) (fun v => P 38 L (v :: s) h) wt) wt) := e112_35
theorem g112_40 : exq sa F N S rt cd112 P Q 40 L st h = (ivVW F 45 4 3 st h (fun r s h' => P 43 L (pu r s) h') wt) := e112_40
theorem g113_1 : exq sa F N S rt cd113 P Q 1 L st h = (tR st fun a s => optW (hO h a 6) (fun fs => optW (fs[2]?) (fun v => P 4 L (v :: s) h) wt) wt) := e113_1
theorem g113_5 : exq sa F N S rt cd113 P Q 5 L st h = (ivVW F 17 2 2 st h (fun r s h' => P 8 L (pu r s) h') wt) := e113_5
theorem g113_8 : exq sa F N S rt cd113 P Q 8 L st h = (tI st fun a s => brW (a = 0) (P 29 L s h) (P 11 L s h) wt wt) := e113_8
theorem g113_12 : exq sa F N S rt cd113 P Q 12 L st h = (tR st fun a s => optW (hO h a 6) (fun fs => optW (fs[2]?) (fun v => P 15 L (v :: s) h) wt) wt) := e113_12
theorem g113_16 : exq sa F N S rt cd113 P Q 16 L st h = (ivVW F 18 2 2 st h (fun r s h' => P 19 L (pu r s) h') wt) := e113_16
theorem g113_19 : exq sa F N S rt cd113 P Q 19 L st h = (tI st fun a s => brW (a = 0) (P 29 L s h) (P 22 L s h) wt wt) := e113_19
theorem g113_23 : exq sa F N S rt cd113 P Q 23 L st h = (ivSW F 132 1 st h (fun r s h' => P 26 L (pu r s) h') wt) := e113_23
theorem g113_26 : exq sa F N S rt cd113 P Q 26 L st h = (tI st fun a s => brW (a = 0) (P 29 L s h) (P 32 L s h) wt wt) := e113_26
theorem g113_33 : exq sa F N S rt cd113 P Q 33 L st h = (tR st fun a s => optW (hO h a 6) (fun fs => optW (fs[2]?) (fun v => P 36 L (v :: s) h) wt) wt) := e113_33
theorem g113_36 : exq sa F N S rt cd113 P Q 36 L st h = (tR st fun a s => optW (hO h a 2) (fun fs => optW (fs[7]?) (fun v => P 39 L (v :: s) h) wt) wt) := e113_36
theorem g113_40 : exq sa F N S rt cd113 P Q 40 L st h = (aldW sa st h (fun v s => P 41 L (.int v :: s) h) wt) := e113_40
theorem g113_41 : exq sa F N S rt cd113 P Q 41 L st h = (tI st fun a s => brW (a = 0) (P 44 L s h) (P 61 L s h) wt wt) := e113_41
theorem g113_45 : exq sa F N S rt cd113 P Q 45 L st h = (tR st fun a s => optW (hO h a 6) (fun fs => optW (fs[4]?) (fun v => P 48 L (v :: s) h) wt) wt) := e113_45
theorem g113_49 : exq sa F N S rt cd113 P Q 49 L st h = (tR st fun a s => optW (hO h a 6) (fun fs => optW (fs[2]?) (fun v => P 52 L (v :: s) h) wt) wt) := e113_49
theorem g113_55 : exq sa F N S rt cd113 P Q 55 L st h = (ivVW F 47 5 3 st h (fun r s h' => P 58 L (pu r s) h') wt) := e113_55
theorem g114_1 : exq sa F N S rt cd114 P Q 1 L st h = (tR st fun a s => optW (hO h a 6) (fun fs => optW (fs[2]?) (fun v => P 4 L (v :: s) h) wt) wt) := e114_1
theorem g114_5 : exq sa F N S rt cd114 P Q 5 L st h = (ivVW F 17 2 2 st h (fun r s h' => P 8 L (pu r s) h') wt) := e114_5
theorem g114_8 : exq sa F N S rt cd114 P Q 8 L st h = (tI st fun a s => brW (a = 0) (P 32 L s h) (P 11 L s h) wt wt) := e114_8
theorem g114_12 : exq sa F N S rt cd114 P Q 12 L st h = (tR st fun a s => optW (hO h a 6) (fun fs => optW (fs[2]?) (fun v => P 15 L (v :: s) h) wt) wt) := e114_12
theorem g114_16 : exq sa F N S rt cd114 P Q 16 L st h = (ivVW F 18 2 2 st h (fun r s h' => P 19 L (pu r s) h') wt) := e114_16
theorem g114_19 : exq sa F N S rt cd114 P Q 19 L st h = (tI st fun a s => brW (a = 0) (P 32 L s h) (P 22 L s h) wt wt) := e114_19
theorem g114_26 : exq sa F N S rt cd114 P Q 26 L st h = (ivSW F 131 3 st h (fun r s h' => P 29 L (pu r s) h') wt) := e114_26
theorem g114_29 : exq sa F N S rt cd114 P Q 29 L st h = (tI st fun a s => brW (a = 0) (P 32 L s h) (P 35 L s h) wt wt) := e114_29
theorem g114_36 : exq sa F N S rt cd114 P Q 36 L st h = (tR st fun a s => optW (hO h a 6) (fun fs => optW (fs[2]?) (fun v => P 39 L (v :: s) h) wt) wt) := e114_36
theorem g114_39 : exq sa F N S rt cd114 P Q 39 L st h = (tR st fun a s => optW (hO h a 2) (fun fs => optW (fs[7]?) (fun v => P 42 L (v :: s) h) wt) wt) := e114_39
theorem g114_43 : exq sa F N S rt cd114 P Q 43 L st h = (aldW sa st h (fun v s => P 44 L (.int v :: s) h) wt) := e114_43
theorem g114_45 : exq sa F N S rt cd114 P Q 45 L st h = (tI st fun b s => tI s fun a s => brW (a = b) (P 48 L s h) (P 53 L s h) wt wt) := e114_45
theorem g114_54 : exq sa F N S rt cd114 P Q 54 L st h = (tR st fun a s => optW (hO h a 6) (fun fs => optW (fs[4]?) (fun v => P 57 L (v :: s) h) wt) wt) := e114_54
theorem g114_58 : exq sa F N S rt cd114 P Q 58 L st h = (tR st fun a s => optW (hO h a 6) (fun fs => optW (fs[2]?) (fun v => P 61 L (v :: s) h) wt) wt) := e114_58
theorem g114_64 : exq sa F N S rt cd114 P Q 64 L st h = (ivVW F 48 5 3 st h (fun r s h' => P 67 L (pu r s) h') wt) := e114_64
theorem g115_1 : exq sa F N S rt cd115 P Q 1 L st h = (tR st fun a s => optW (hO h a 6) (fun fs => optW (fs[2]?) (fun v => P 4 L (v :: s) h) wt) wt) := e115_1
theorem g115_4 : exq sa F N S rt cd115 P Q 4 L st h = (ivVW F 16 1 2 st h (fun r s h' => P 7 L (pu r s) h') wt) := e115_4
theorem g115_7 : exq sa F N S rt cd115 P Q 7 L st h = (tI st fun a s => brW (a = 0) (P 10 L s h) (P 13 L s h) wt wt) := e115_7
theorem g115_16 : exq sa F N S rt cd115 P Q 16 L st h = (ivSW F 131 3 st h (fun r s h' => P 19 L (pu r s) h') wt) := e115_16
theorem g115_19 : exq sa F N S rt cd115 P Q 19 L st h = (tI st fun a s => brW (a = 0) (P 48 L s h) (P 22 L s h) wt wt) := e115_19
theorem g115_26 : exq sa F N S rt cd115 P Q 26 L st h = (ivSW F 131 3 st h (fun r s h' => P 29 L (pu r s) h') wt) := e115_26
theorem g115_29 : exq sa F N S rt cd115 P Q 29 L st h = (tI st fun a s => brW (a = 0) (P 48 L s h) (P 32 L s h) wt wt) := e115_29
theorem g115_33 : exq sa F N S rt cd115 P Q 33 L st h = (tR st fun a s => optW (hO h a 6) (fun fs => optW (fs[4]?) (fun v => P 36 L (v :: s) h) wt) wt) := e115_33
theorem g115_37 : exq sa F N S rt cd115 P Q 37 L st h = (tR st fun a s => optW (hO h a 6) (fun fs => optW (fs[2]?) (fun v => P 40 L (v :: s) h) wt) wt) := e115_37
theorem g115_42 : exq sa F N S rt cd115 P Q 42 L st h = (ivVW F 49 4 3 st h (fun r s h' => P 45 L (pu r s) h') wt) := e115_42
theorem g116_1 : exq sa F N S rt cd116 P Q 1 L st h = (tR st fun a s => optW (hO h a 6) (fun fs => optW (fs[2]?) (fun v => P 4 L (v :: s) h) wt) wt) := e116_1
theorem g116_5 : exq sa F N S rt cd116 P Q 5 L st h = (ivVW F 19 2 2 st h (fun r s h' => P 8 L (pu r s) h') wt) := e116_5
theorem g116_8 : exq sa F N S rt cd116 P Q 8 L st h = (tI st fun a s => brW (a = 0) (P 18 L s h) (P 11 L s h) wt wt) := e116_8
theorem g116_12 : exq sa F N S rt cd116 P Q 12 L st h = (ivSW F 132 1 st h (fun r s h' => P 15 L (pu r s) h') wt) := e116_12
theorem g116_15 : exq sa F N S rt cd116 P Q 15 L st h = (tI st fun a s => brW (a = 0) (P 18 L s h) (P 21 L s h) wt wt) := e116_15
theorem g116_22 : exq sa F N S rt cd116 P Q 22 L st h = (tR st fun a s => optW (hO h a 6) (fun fs => optW (fs[2]?) (fun v => P 25 L (v :: s) h) wt) wt) := e116_22
theorem g116_26 : exq sa F N S rt cd116 P Q 26 L st h = (ivVW F 35 2 2 st h (fun r s h' => P 29 L (pu r s) h') wt) := e116_26
theorem g116_31 : exq sa F N S rt cd116 P Q 31 L st h = (tI st fun a s => brW (a = 0) (P 40 L s h) (P 34 L s h) wt wt) := e116_31
theorem g116_37 : exq sa F N S rt cd116 P Q 37 L st h = (tI st fun b s => tI s fun a s => brW (a = b) (P 40 L s h) (P 44 L s h) wt wt) := e116_37
theorem g116_45 : exq sa F N S rt cd116 P Q 45 L st h = (tR st fun a s => optW (hO h a 6) (fun fs => optW (fs[2]?) (fun v => P 48 L (v :: s) h) wt) wt) := e116_45
theorem g116_50 : exq sa F N S rt cd116 P Q 50 L st h = (ivVW F 34 3 2 st h (fun r s h' => P 53 L (pu r s) h') wt) := e116_50
theorem g117_1 : exq sa F N S rt cd117 P Q 1 L st h = (tR st fun a s => optW (hO h a 6) (fun fs => optW (fs[2]?) (fun v => P 4 L (v :: s) h) wt) wt) := e117_1
theorem g117_5 : exq sa F N S rt cd117 P Q 5 L st h = (ivVW F 17 2 2 st h (fun r s h' => P 8 L (pu r s) h') wt) := e117_5
theorem g117_8 : exq sa F N S rt cd117 P Q 8 L st h = (tI st fun a s => brW (a = 0) (P 39 L s h) (P 11 L s h) wt wt) := e117_8
theorem g117_12 : exq sa F N S rt cd117 P Q 12 L st h = (ivSW F 132 1 st h (fun r s h' => P 15 L (pu r s) h') wt) := e117_12
theorem g117_15 : exq sa F N S rt cd117 P Q 15 L st h = (tI st fun a s => brW (a = 0) (P 39 L s h) (P 18 L s h) wt wt) := e117_15
theorem g117_19 : exq sa F N S rt cd117 P Q 19 L st h = (tR st fun a s => optW (hO h a 6) (fun fs => optW (fs[2]?) (fun v => P 22 L (v :: s) h) wt) wt) := e117_19
theorem g117_23 : exq sa F N S rt cd117 P Q 23 L st h = (ivVW F 17 2 2 st h (fun r s h' => P 26 L (pu r s) h') wt) := e117_23
theorem g117_26 : exq sa F N S rt cd117 P Q 26 L st h = (tI st fun a s => brW (a = 0) (P 39 L s h) (P 29 L s h) wt wt) := e117_26
theorem g117_33 : exq sa F N S rt cd117 P Q 33 L st h = (ivSW F 133 2 st h (fun r s h' => P 36 L (pu r s) h') wt) := e117_33
theorem g117_36 : exq sa F N S rt cd117 P Q 36 L st h = (tI st fun a s => brW (a = 0) (P 39 L s h) (P 42 L s h) wt wt) := e117_36
theorem g117_43 : exq sa F N S rt cd117 P Q 43 L st h = (tR st fun a s => optW (hO h a 6) (fun fs => optW (fs[2]?) (fun v => P 46 L (v :: s) h) wt) wt) := e117_43
theorem g117_46 : exq sa F N S rt cd117 P Q 46 L st h = (tR st fun a s => optW (hO h a 2) (fun fs => optW (fs[7]?) (fun v => P 49 L (v :: s) h) wt) wt) := e117_46
theorem g117_50 : exq sa F N S rt cd117 P Q 50 L st h = (aldW sa st h (fun v s => P 51 L (.int v :: s) h) wt) := e117_50
theorem g117_52 : exq sa F N S rt cd117 P Q 52 L st h = (tI st fun b s => tI s fun a s => brW (a = b) (P 55 L s h) (P 58 L s h) wt wt) := e117_52
theorem g117_59 : exq sa F N S rt cd117 P Q 59 L st h = (tR st fun a s => optW (hO h a 6) (fun fs => optW (fs[0]?) (fun v => P 62 L (v :: s) h) wt) wt) := e117_59
theorem g117_68 : exq sa F N S rt cd117 P Q 68 L st h = (ivVW F 86 4 5 st h (fun r s h' => P 71 L (pu r s) h') wt) := e117_68
theorem g117_75 : exq sa F N S rt cd117 P Q 75 L st h = (tI st fun a s => brW (a = 0) (P 85 L s h) (P 78 L s h) wt wt) := e117_75
theorem g117_81 : exq sa F N S rt cd117 P Q 81 L st h = (ivVW F 129 2 6 st h (fun r s h' => P 84 L (pu r s) h') wt) := e117_81
theorem g117_86 : exq sa F N S rt cd117 P Q 86 L st h = (tR st fun a s => optW (hO h a 6) (fun fs => optW (fs[4]?) (fun v => P 89 L (v :: s) h) wt) wt) := e117_86
theorem g117_91 : exq sa F N S rt cd117 P Q 91 L st h = (tR st fun a s => optW (hO h a 6) (fun fs => optW (fs[0]?) (fun v => P 94 L (v :: s) h) wt) wt) := e117_91
theorem g117_94 : exq sa F N S rt cd117 P Q 94 L st h = (tR st fun a s => optW (hO h a 5) (fun fs => optW (fs[0]?) (fun v => P 97 L (v :: s) h) wt) wt) := e117_94
theorem g117_99 : exq sa F N S rt cd117 P Q 99 L st h = (tI st fun i s => tR s fun a s => optW (hR h a) (fun q => ixW i q.2.1 (fun k => optW (q.2.2 k) (fun v => P 100 L (.ref v :: s) h) wt) wt) wt) := e117_99
theorem g117_104 : exq sa F N S rt cd117 P Q 104 L st h = (ivVW F 51 5 3 st h (fun r s h' => P 107 L (pu r s) h') wt) := e117_104
theorem g117_109 : exq sa F N S rt cd117 P Q 109 L st h = (tI st fun a s => brW (a = 0) (P 112 L s h) (P 127 L s h) wt wt) := e117_109
theorem g117_113 : exq sa F N S rt cd117 P Q 113 L st h = (tR st fun a s => optW (hO h a 6) (fun fs => optW (fs[4]?) (fun v => P 116 L (v :: s) h) wt) wt) := e117_113
theorem g117_117 : exq sa F N S rt cd117 P Q 117 L st h = (tR st fun a s => optW (hO h a 6) (fun fs => optW (fs[2]?) (fun v => P 120 L (v :: s) h) wt) wt) := e117_117
theorem g117_121 : exq sa F N S rt cd117 P Q 121 L st h = (ivVW F 53 3 3 st h (fun r s h' => P 124 L (pu r s) h') wt) := e117_121
theorem g117_128 : exq sa F N S rt cd117 P Q 128 L st h = (tR st fun a s => optW (hO h a 6) (fun fs => optW (fs[4]?) (fun v => P 131 L (v :: s) h) wt) wt) := e117_128
theorem g117_132 : exq sa F N S rt cd117 P Q 132 L st h = (tR st fun a s => optW (hO h a 6) (fun fs => optW (fs[2]?) (fun v => P 135 L (v :: s) h) wt) wt) := e117_132
theorem g117_136 : exq sa F N S rt cd117 P Q 136 L st h = (ivVW F 54 3 3 st h (fun r s h' => P 139 L (pu r s) h') wt) := e117_136
theorem g117_139 : exq sa F N S rt cd117 P Q 139 L st h = (ivVW F 130 2 6 st h (fun r s h' => P 142 L (pu r s) h') wt) := e117_139
theorem g118_1 : exq sa F N S rt cd118 P Q 1 L st h = (tR st fun a s => optW (hO h a 6) (fun fs => optW (fs[2]?) (fun v => P 4 L (v :: s) h) wt) wt) := e118_1
theorem g118_5 : exq sa F N S rt cd118 P Q 5 L st h = (ivVW F 18 2 2 st h (fun r s h' => P 8 L (pu r s) h') wt) := e118_5
theorem g118_8 : exq sa F N S rt cd118 P Q 8 L st h = (tI st fun a s => brW (a = 0) (P 39 L s h) (P 11 L s h) wt wt) := e118_8
theorem g118_12 : exq sa F N S rt cd118 P Q 12 L st h = (ivSW F 132 1 st h (fun r s h' => P 15 L (pu r s) h') wt) := e118_12
theorem g118_15 : exq sa F N S rt cd118 P Q 15 L st h = (tI st fun a s => brW (a = 0) (P 39 L s h) (P 18 L s h) wt wt) := e118_15
theorem g118_19 : exq sa F N S rt cd118 P Q 19 L st h = (tR st fun a s => optW (hO h a 6) (fun fs => optW (fs[2]?) (fun v => P 22 L (v :: s) h) wt) wt) := e118_19
theorem g118_23 : exq sa F N S rt cd118 P Q 23 L st h = (ivVW F 17 2 2 st h (fun r s h' => P 26 L (pu r s) h') wt) := e118_23
theorem g118_26 : exq sa F N S rt cd118 P Q 26 L st h = (tI st fun a s => brW (a = 0) (P 39 L s h) (P 29 L s h) wt wt) := e118_26
theorem g118_33 : exq sa F N S rt cd118 P Q 33 L st h = (ivSW F 133 2 st h (fun r s h' => P 36 L (pu r s) h') wt) := e118_33
theorem g118_36 : exq sa F N S rt cd118 P Q 36 L st h = (tI st fun a s => brW (a = 0) (P 39 L s h) (P 42 L s h) wt wt) := e118_36
theorem g118_43 : exq sa F N S rt cd118 P Q 43 L st h = (tR st fun a s => optW (hO h a 6) (fun fs => optW (fs[2]?) (fun v => P 46 L (v :: s) h) wt) wt) := e118_43
theorem g118_47 : exq sa F N S rt cd118 P Q 47 L st h = (ivVW F 20 2 2 st h (fun r s h' => P 50 L (pu r s) h') wt) := e118_47
theorem g118_50 : exq sa F N S rt cd118 P Q 50 L st h = (tI st fun a s => brW (a = 0) (P 56 L s h) (P 53 L s h) wt wt) := e118_50
theorem g118_57 : exq sa F N S rt cd118 P Q 57 L st h = (tR st fun a s => optW (hO h a 6) (fun fs => optW (fs[0]?) (fun v => P 60 L (v :: s) h) wt) wt) := e118_57
theorem g118_66 : exq sa F N S rt cd118 P Q 66 L st h = (ivVW F 86 4 5 st h (fun r s h' => P 69 L (pu r s) h') wt) := e118_66
theorem g118_73 : exq sa F N S rt cd118 P Q 73 L st h = (tI st fun a s => brW (a = 0) (P 83 L s h) (P 76 L s h) wt wt) := e118_73
theorem g118_79 : exq sa F N S rt cd118 P Q 79 L st h = (ivVW F 129 2 6 st h (fun r s h' => P 82 L (pu r s) h') wt) := e118_79
theorem g118_84 : exq sa F N S rt cd118 P Q 84 L st h = (tR st fun a s => optW (hO h a 6) (fun fs => optW (fs[4]?) (fun v => P 87 L (v :: s) h) wt) wt) := e118_84
theorem g118_89 : exq sa F N S rt cd118 P Q 89 L st h = (tR st fun a s => optW (hO h a 6) (fun fs => optW (fs[0]?) (fun v => P 92 L (v :: s) h) wt) wt) := e118_89
theorem g118_92 : exq sa F N S rt cd118 P Q 92 L st h = (tR st fun a s => optW (hO h a 5) (fun fs => optW (fs[0]?) (fun v => P 95 L (v :: s) h) wt) wt) := e118_92
theorem g118_97 : exq sa F N S rt cd118 P Q 97 L st h = (tI st fun i s => tR s fun a s => optW (hR h a) (fun q => ixW i q.2.1 (fun k => optW (q.2.2 k) (fun v => P 98 L (.ref v :: s) h) wt) wt) wt) := e118_97
theorem g118_102 : exq sa F N S rt cd118 P Q 102 L st h = (ivVW F 51 5 3 st h (fun r s h' => P 105 L (pu r s) h') wt) := e118_102
theorem g118_107 : exq sa F N S rt cd118 P Q 107 L st h = (tI st fun a s => brW (a = 0) (P 110 L s h) (P 125 L s h) wt wt) := e118_107
theorem g118_111 : exq sa F N S rt cd118 P Q 111 L st h = (tR st fun a s => optW (hO h a 6) (fun fs => optW (fs[4]?) (fun v => P 114 L (v :: s) h) wt) wt) := e118_111
theorem g118_115 : exq sa F N S rt cd118 P Q 115 L st h = (tR st fun a s => optW (hO h a 6) (fun fs => optW (fs[2]?) (fun v => P 118 L (v :: s) h) wt) wt) := e118_115
theorem g118_119 : exq sa F N S rt cd118 P Q 119 L st h = (ivVW F 55 3 3 st h (fun r s h' => P 122 L (pu r s) h') wt) := e118_119
theorem g118_126 : exq sa F N S rt cd118 P Q 126 L st h = (tR st fun a s => optW (hO h a 6) (fun fs => optW (fs[4]?) (fun v => P 129 L (v :: s) h) wt) wt) := e118_126
theorem g118_130 : exq sa F N S rt cd118 P Q 130 L st h = (tR st fun a s => optW (hO h a 6) (fun fs => optW (fs[2]?) (fun v => P 133 L (v :: s) h) wt) wt) := e118_130
theorem g118_134 : exq sa F N S rt cd118 P Q 134 L st h = (ivVW F 56 3 3 st h (fun r s h' => P 137 L (pu r s) h') wt) := e118_134
theorem g118_137 : exq sa F N S rt cd118 P Q 137 L st h = (ivVW F 130 2 6 st h (fun r s h' => P 140 L (pu r s) h') wt) := e118_137
theorem g119_1 : exq sa F N S rt cd119 P Q 1 L st h = (tR st fun a s => optW (hO h a 6) (fun fs => optW (fs[2]?) (fun v => P 4 L (v :: s) h) wt) wt) := e119_1
theorem g119_5 : exq sa F N S rt cd119 P Q 5 L st h = (ivVW F 18 2 2 st h (fun r s h' => P 8 L (pu r s) h') wt) := e119_5
theorem g119_8 : exq sa F N S rt cd119 P Q 8 L st h = (tI st fun a s => brW (a = 0) (P 39 L s h) (P 11 L s h) wt wt) := e119_8
theorem g119_15 : exq sa F N S rt cd119 P Q 15 L st h = (ivSW F 131 3 st h (fun r s h' => P 18 L (pu r s) h') wt) := e119_15
theorem g119_18 : exq sa F N S rt cd119 P Q 18 L st h = (tI st fun a s => brW (a = 0) (P 39 L s h) (P 21 L s h) wt wt) := e119_18
theorem g119_25 : exq sa F N S rt cd119 P Q 25 L st h = (ivSW F 131 3 st h (fun r s h' => P 28 L (pu r s) h') wt) := e119_25
theorem g119_28 : exq sa F N S rt cd119 P Q 28 L st h = (tI st fun a s => brW (a = 0) (P 39 L s h) (P 31 L s h) wt wt) := e119_28
theorem g119_33 : exq sa F N S rt cd119 P Q 33 L st h = (ivSW F 132 1 st h (fun r s h' => P 36 L (pu r s) h') wt) := e119_33
theorem g119_36 : exq sa F N S rt cd119 P Q 36 L st h = (tI st fun a s => brW (a = 0) (P 39 L s h) (P 43 L s h) wt wt) := e119_36
theorem g119_44 : exq sa F N S rt cd119 P Q 44 L st h = (tR st fun a s => optW (hO h a 6) (fun fs => optW (fs[4]?) (fun v => P 47 L (v :: s) h) wt) wt) := e119_44
theorem g119_48 : exq sa F N S rt cd119 P Q 48 L st h = (tR st fun a s => optW (hO h a 6) (fun fs => optW (fs[2]?) (fun v => P 51 L (v :: s) h) wt) wt) := e119_48
theorem g119_56 : exq sa F N S rt cd119 P Q 56 L st h = (ivVW F 57 6 3 st h (fun r s h' => P 59 L (pu r s) h') wt) := e119_56
theorem g120_1 : exq sa F N S rt cd120 P Q 1 L st h = (tR st fun a s => optW (hO h a 6) (fun fs => optW (fs[2]?) (fun v => P 4 L (v :: s) h) wt) wt) := e120_1
theorem g120_4 : exq sa F N S rt cd120 P Q 4 L st h = (ivVW F 16 1 2 st h (fun r s h' => P 7 L (pu r s) h') wt) := e120_4
theorem g120_7 : exq sa F N S rt cd120 P Q 7 L st h = (tI st fun a s => brW (a = 0) (P 10 L s h) (P 13 L s h) wt wt) := e120_7
theorem g120_17 : exq sa F N S rt cd120 P Q 17 L st h = (ivSW F 131 3 st h (fun r s h' => P 20 L (pu r s) h') wt) := e120_17
theorem g120_20 : exq sa F N S rt cd120 P Q 20 L st h = (tI st fun a s => brW (a = 0) (P 41 L s h) (P 23 L s h) wt wt) := e120_20
theorem g120_28 : exq sa F N S rt cd120 P Q 28 L st h = (ivSW F 131 3 st h (fun r s h' => P 31 L (pu r s) h') wt) := e120_28
theorem g120_31 : exq sa F N S rt cd120 P Q 31 L st h = (tI st fun a s => brW (a = 0) (P 41 L s h) (P 34 L s h) wt wt) := e120_31
theorem g120_35 : exq sa F N S rt cd120 P Q 35 L st h = (ivSW F 132 1 st h (fun r s h' => P 38 L (pu r s) h') wt) := e120_35
theorem g120_38 : exq sa F N S rt cd120 P Q 38 L st h = (tI st fun a s => brW (a = 0) (P 41 L s h) (P 44 L s h) wt wt) := e120_38
theorem g120_45 : exq sa F N S rt cd120 P Q 45 L st h = (tR st fun a s => optW (hO h a 6) (fun fs => optW (fs[4]?) (fun v => P 48 L (v :: s) h) wt) wt) := e120_45
theorem g120_49 : exq sa F N S rt cd120 P Q 49 L st h = (tR st fun a s => optW (hO h a 6) (fun fs => optW (fs[2]?) (fun v => P 52 L (v :: s) h) wt) wt) := e120_49
theorem g120_54 : exq sa F N S rt cd120 P Q 54 L st h = (ivVW F 61 4 3 st h (fun r s h' => P 57 L (pu r s) h') wt) := e120_54
theorem g120_60 : exq sa F N S rt cd120 P Q 60 L st h = (tI st fun a s => brW (a = 0) (P 63 L s h) (P 71 L s h) wt wt) := e120_60
theorem g120_65 : exq sa F N S rt cd120 P Q 65 L st h = (ivVW F 21 1 2 st h (fun r s h' => P 68 L (pu r s) h') wt) := e120_65
theorem g120_74 : exq sa F N S rt cd120 P Q 74 L st h = (ivVW F 22 2 2 st h (fun r s h' => P 77 L (pu r s) h') wt) := e120_74
theorem g121_1 : exq sa F N S rt cd121 P Q 1 L st h = (ivSW F 132 1 st h (fun r s h' => P 4 L (pu r s) h') wt) := e121_1
theorem g121_4 : exq sa F N S rt cd121 P Q 4 L st h = (tI st fun a s => brW (a = 0) (P 7 L s h) (P 10 L s h) wt wt) := e121_4
theorem g121_11 : exq sa F N S rt cd121 P Q 11 L st h = (tR st fun a s => optW (hO h a 6) (fun fs => optW (fs[2]?) (fun v => P 14 L (v :: s) h) wt) wt) := e121_11
theorem g121_14 : exq sa F N S rt cd121 P Q 14 L st h = (ivVW F 16 1 2 st h (fun r s h' => P 17 L (pu r s) h') wt) := e121_14
theorem g121_17 : exq sa F N S rt cd121 P Q 17 L st h = (tI st fun a s => brW (a = 0) (P 20 L s h) (P 23 L s h) wt wt) := e121_17
theorem g121_24 : exq sa F N S rt cd121 P Q 24 L st h = (tR st fun a s => optW (hO h a 6) (fun fs => optW (fs[5]?) (fun v => P 27 L (v :: s) h) wt) wt) := e121_24
theorem g121_28 : exq sa F N S rt cd121 P Q 28 L st h = (tI st fun i s => tR s fun a s => optW (hR h a) (fun q => ixW i q.2.1 (fun k => optW (q.2.2 k) (fun v => P 29 L (.ref v :: s) h) wt) wt) wt) := e121_28
theorem g121_30 : exq sa F N S rt cd121 P Q 30 L st h = (tR st fun a s => optW (hO h a 6) (fun fs => optW (fs[2]?) (fun v => P 33 L (v :: s) h) wt) wt) := e121_30
theorem g121_33 : exq sa F N S rt cd121 P Q 33 L st h = (ivVW F 15 2 2 st h (fun r s h' => P 36 L (pu r s) h') wt) := e121_33
theorem g122_1 : exq sa F N S rt cd122 P Q 1 L st h = (ivSW F 132 1 st h (fun r s h' => P 4 L (pu r s) h') wt) := e122_1
theorem g122_4 : exq sa F N S rt cd122 P Q 4 L st h = (tI st fun a s => brW (a = 0) (P 7 L s h) (P 10 L s h) wt wt) := e122_4
theorem g122_11 : exq sa F N S rt cd122 P Q 11 L st h = (tR st fun a s => optW (hO h a 6) (fun fs => optW (fs[5]?) (fun v => P 14 L (v :: s) h) wt) wt) := e122_11
theorem g122_15 : exq sa F N S rt cd122 P Q 15 L st h = (tI st fun i s => tR s fun a s => optW (hR h a) (fun q => ixW i q.2.1 (fun k => optW (q.2.2 k) (fun v => P 16 L (.ref v :: s) h) wt) wt) wt) := e122_15
theorem g122_16 : exq sa F N S rt cd122 P Q 16 L st h = (ivVW F 16 1 2 st h (fun r s h' => P 19 L (pu r s) h') wt) := e122_16
theorem g122_19 : exq sa F N S rt cd122 P Q 19 L st h = (tI st fun a s => brW (a = 0) (P 22 L s h) (P 25 L s h) wt wt) := e122_19
theorem g122_26 : exq sa F N S rt cd122 P Q 26 L st h = (tR st fun a s => optW (hO h a 6) (fun fs => optW (fs[2]?) (fun v => P 29 L (v :: s) h) wt) wt) := e122_26
theorem g122_30 : exq sa F N S rt cd122 P Q 30 L st h = (tR st fun a s => optW (hO h a 6) (fun fs => optW (fs[5]?) (fun v => P 33 L (v :: s) h) wt) wt) := e122_30
theorem g122_34 : exq sa F N S rt cd122 P Q 34 L st h = (tI st fun i s => tR s fun a s => optW (hR h a) (fun q => ixW i q.2.1 (fun k => optW (q.2.2 k) (fun v => P 35 L (.ref v :: s) h) wt) wt) wt) := e122_34
theorem g122_35 : exq sa F N S rt cd122 P Q 35 L st h = (ivVW F 15 2 2 st h (fun r s h' => P 38 L (pu r s) h') wt) := e122_35
theorem g122_39 : exq sa F N S rt cd122 P Q 39 L st h = (tR st fun a s => optW (hO h a 6) (fun fs => optW (fs[3]?) (fun v => P 42 L (v :: s) h) wt) wt) := e122_39
theorem g122_42 : exq sa F N S rt cd122 P Q 42 L st h = (ivVW F 1 1 0 st h (fun r s h' => P 45 L (pu r s) h') wt) := e122_42
theorem g123_1 : exq sa F N S rt cd123 P Q 1 L st h = (tR st fun a s => optW (hO h a 6) (fun fs => optW (fs[2]?) (fun v => P 4 L (v :: s) h) wt) wt) := e123_1
theorem g123_5 : exq sa F N S rt cd123 P Q 5 L st h = (ivVW F 17 2 2 st h (fun r s h' => P 8 L (pu r s) h') wt) := e123_5
theorem g123_8 : exq sa F N S rt cd123 P Q 8 L st h = (tI st fun a s => brW (a = 0) (P 23 L s h) (P 11 L s h) wt wt) := e123_8
theorem g123_12 : exq sa F N S rt cd123 P Q 12 L st h = (tR st fun a s => optW (hO h a 6) (fun fs => optW (fs[2]?) (fun v => P 15 L (v :: s) h) wt) wt) := e123_12
theorem g123_15 : exq sa F N S rt cd123 P Q 15 L st h = (tR st fun a s => optW (hO h a 2) (fun fs => optW (fs[4]?) (fun v => P 18 L (v :: s) h) wt) wt) := e123_15
theorem g123_19 : exq sa F N S rt cd123 P Q 19 L st h = (aldW sa st h (fun v s => P 20 L (.int v :: s) h) wt) := e123_19
theorem g124_1 : exq sa F N S rt cd124 P Q 1 L st h = (tR st fun a s => optW (hO h a 6) (fun fs => optW (fs[2]?) (fun v => P 4 L (v :: s) h) wt) wt) := e124_1
theorem g124_5 : exq sa F N S rt cd124 P Q 5 L st h = (ivVW F 17 2 2 st h (fun r s h' => P 8 L (pu r s) h') wt) := e124_5
theorem g124_8 : exq sa F N S rt cd124 P Q 8 L st h = (tI st fun a s => brW (a = 0) (P 20 L s h) (P 11 L s h) wt wt) := e124_8
theorem g124_14 : exq sa F N S rt cd124 P Q 14 L st h = (ivSW F 131 3 st h (fun r s h' => P 17 L (pu r s) h') wt) := e124_14
theorem g124_17 : exq sa F N S rt cd124 P Q 17 L st h = (tI st fun a s => brW (a = 0) (P 20 L s h) (P 23 L s h) wt wt) := e124_17
theorem g124_24 : exq sa F N S rt cd124 P Q 24 L st h = (tR st fun a s => optW (hO h a 6) (fun fs => optW (fs[2]?) (fun v => P 27 L (v :: s) h) wt) wt) := e124_24
theorem g124_27 : exq sa F N S rt cd124 P Q 27 L st h = (tR st fun a s => optW (hO h a 2) (fun fs => optW (fs[4]?) (fun v => P 30 L (v :: s) h) wt) wt) := e124_27
theorem g124_31 : exq sa F N S rt cd124 P Q 31 L st h = (aldW sa st h (fun v s => P 32 L (.int v :: s) h) wt) := e124_31
theorem g124_33 : exq sa F N S rt cd124 P Q 33 L st h = (ivSW F 5 2 st h (fun r s h' => P 36 L (pu r s) h') wt) := e124_33
theorem g124_36 : exq sa F N S rt cd124 P Q 36 L st h = (tI st fun a s => brW (a = 0) (P 47 L s h) (P 39 L s h) wt wt) := e124_36
theorem g124_41 : exq sa F N S rt cd124 P Q 41 L st h = (ivVW F 130 2 6 st h (fun r s h' => P 44 L (pu r s) h') wt) := e124_41
theorem g124_49 : exq sa F N S rt cd124 P Q 49 L st h = (ivVW F 129 2 6 st h (fun r s h' => P 52 L (pu r s) h') wt) := e124_49
theorem g125_1 : exq sa F N S rt cd125 P Q 1 L st h = (tR st fun a s => optW (hO h a 6) (fun fs => optW (fs[2]?) (fun v => P 4 L (v :: s) h) wt) wt) := e125_1
theorem g125_5 : exq sa F N S rt cd125 P Q 5 L st h = (ivVW F 17 2 2 st h (fun r s h' => P 8 L (pu r s) h') wt) := e125_5
theorem g125_8 : exq sa F N S rt cd125 P Q 8 L st h = (tI st fun a s => brW (a = 0) (P 18 L s h) (P 11 L s h) wt wt) := e125_8
theorem g125_12 : exq sa F N S rt cd125 P Q 12 L st h = (ivSW F 132 1 st h (fun r s h' => P 15 L (pu r s) h') wt) := e125_12
theorem g125_15 : exq sa F N S rt cd125 P Q 15 L st h = (tI st fun a s => brW (a = 0) (P 18 L s h) (P 21 L s h) wt wt) := e125_15
theorem g125_22 : exq sa F N S rt cd125 P Q 22 L st h = (tR st fun a s => optW (hO h a 6) (fun fs => optW (fs[6]?) (fun v => P 25 L (v :: s) h) wt) wt) := e125_22
theorem g125_27 : exq sa F N S rt cd125 P Q 27 L st h = (tR st fun a s => optW (hO h a 6) (fun fs => optW (fs[2]?) (fun v => P 30 L (v :: s) h) wt) wt) := e125_27
theorem g125_30 : exq sa F N S rt cd125 P Q 30 L st h = (tR st fun a s => optW (hO h a 2) (fun fs => optW (fs[4]?) (fun v => P 33 L (v :: s) h) wt) wt) := e125_30
theorem g125_34 : exq sa F N S rt cd125 P Q 34 L st h = (aldW sa st h (fun v s => P 35 L (.int v :: s) h) wt) := e125_34
theorem g125_36 : exq sa F N S rt cd125 P Q 36 L st h = (tR st fun a s => optW (hO h a 6) (fun fs => optW (fs[2]?) (fun v => P 39 L (v :: s) h) wt) wt) := e125_36
theorem g125_39 : exq sa F N S rt cd125 P Q 39 L st h = (tR st fun a s => optW (hO h a 2) (fun fs => optW (fs[5]?) (fun v => P 42 L (v :: s) h) wt) wt) := e125_39
theorem g125_43 : exq sa F N S rt cd125 P Q 43 L st h = (aldW sa st h (fun v s => P 44 L (.int v :: s) h) wt) := e125_43
theorem g125_45 : exq sa F N S rt cd125 P Q 45 L st h = (tR st fun a s => optW (hO h a 6) (fun fs => optW (fs[2]?) (fun v => P 48 L (v :: s) h) wt) wt) := e125_45
theorem g125_48 : exq sa F N S rt cd125 P Q 48 L st h = (tR st fun a s => optW (hO h a 2) (fun fs => optW (fs[6]?) (fun v => P 51 L (v :: s) h) wt) wt) := e125_48
theorem g125_52 : exq sa F N S rt cd125 P Q 52 L st h = (aldW sa st h (fun v s => P 53 L (.int v :: s) h) wt) := e125_52
theorem g125_53 : exq sa F N S rt cd125 P Q 53 L st h = (ivVW F 7 5 1 st h (fun r s h' => P 56 L (pu r s) h') wt) := e125_53
theorem g125_57 : exq sa F N S rt cd125 P Q 57 L st h = (tR st fun a s => optW (hO h a 6) (fun fs => optW (fs[6]?) (fun v => P 60 L (v :: s) h) wt) wt) := e125_57
theorem g125_61 : exq sa F N S rt cd125 P Q 61 L st h = (ivVW F 8 2 1 st h (fun r s h' => P 64 L (pu r s) h') wt) := e125_61
theorem g126_3 : exq sa F N S rt cd126 P Q 3 L st h = (tR st fun a s => optW (hO h a 6) (fun fs => optW (fs[6]?) (fun v => P 6 L (v :: s) h) wt) wt) := e126_3
theorem g126_6 : exq sa F N S rt cd126 P Q 6 L st h = (tR st fun a s => optW (hO h a 1) (fun fs => optW (fs[1]?) (fun v => P 9 L (v :: s) h) wt) wt) := e126_6
theorem g126_11 : exq sa F N S rt cd126 P Q 11 L st h = (ivSW F 131 3 st h (fun r s h' => P 14 L (pu r s) h') wt) := e126_11
theorem g126_14 : exq sa F N S rt cd126 P Q 14 L st h = (tI st fun a s => brW (a = 0) (P 29 L s h) (P 17 L s h) wt wt) := e126_14
theorem g126_18 : exq sa F N S rt cd126 P Q 18 L st h = (tR st fun a s => optW (hO h a 6) (fun fs => optW (fs[6]?) (fun v => P 21 L (v :: s) h) wt) wt) := e126_18
theorem g126_21 : exq sa F N S rt cd126 P Q 21 L st h = (tR st fun a s => optW (hO h a 1) (fun fs => optW (fs[0]?) (fun v => P 24 L (v :: s) h) wt) wt) := e126_21
theorem g126_25 : exq sa F N S rt cd126 P Q 25 L st h = (aldW sa st h (fun v s => P 26 L (.int v :: s) h) wt) := e126_25
theorem g127_49 : exq sa F N S rt cd127 P Q 49 L st h = (tR st fun a s => optW (hO h a 6) (fun fs => optW (fs[0]?) (fun v => P 52 L (v :: s) h) wt) wt) := e127_49
theorem g127_52 : exq sa F N S rt cd127 P Q 52 L st h = (ivVW F 81 1 5 st h (fun r s h' => P 55 L (pu r s) h') wt) := e127_52
theorem g127_57 : exq sa F N S rt cd127 P Q 57 L st h = (tR st fun a s => optW (hO h a 6) (fun fs => optW (fs[2]?) (fun v => P 60 L (v :: s) h) wt) wt) := e127_57
theorem g127_60 : exq sa F N S rt cd127 P Q 60 L st h = (tR st fun a s => optW (hO h a 2) (fun fs => optW (fs[3]?) (fun v => P 63 L (v :: s) h) wt) wt) := e127_60
theorem g127_65 : exq sa F N S rt cd127 P Q 65 L st h = (tR st fun a s => optW (hO h a 6) (fun fs => optW (fs[2]?) (fun v => P 68 L (v :: s) h) wt) wt) := e127_65
theorem g127_68 : exq sa F N S rt cd127 P Q 68 L st h = (tR st fun a s => optW (hO h a 2) (fun fs => optW (fs[9]?) (fun v => P 71 L (v :: s) h) wt) wt) := e127_68
theorem g127_73 : exq sa F N S rt cd127 P Q 73 L st h = (tR st fun a s => optW (hO h a 6) (fun fs => optW (fs[2]?) (fun v => P 76 L (v :: s) h) wt) wt) := e127_73
theorem g127_76 : exq sa F N S rt cd127 P Q 76 L st h = (tR st fun a s => optW (hO h a 2) (fun fs => optW (fs[2]?) (fun v => P 79 L (v :: s) h) wt) wt) := e127_76
theorem g127_81 : exq sa F N S rt cd127 P Q 81 L st h = (tR st fun a s => optW (hO h a 6) (fun fs => optW (fs[2]?) (fun v => P 84 L (v :: s) h) wt) wt) := e127_81
theorem g127_84 : exq sa F N S rt cd127 P Q 84 L st h = (tR st fun a s => optW (hO h a 2) (fun fs => optW (fs[13]?) (fun v => P 87 L (v :: s) h) wt) wt) := e127_84
theorem g127_87 : exq sa F N S rt cd127 P Q 87 L st h = (ivSW F 225 1 st h (fun r s h' => P 90 L (pu r s) h') wt) := e127_87
theorem g127_92 : exq sa F N S rt cd127 P Q 92 L st h = (tR st fun a s => optW (hO h a 6) (fun fs => optW (fs[2]?) (fun v => P 95 L (v :: s) h) wt) wt) := e127_92
theorem g127_96 : exq sa F N S rt cd127 P Q 96 L st h = (ivVW F 22 2 2 st h (fun r s h' => P 99 L (pu r s) h') wt) := e127_96
theorem g127_99 : exq sa F N S rt cd127 P Q 99 L st h = (ivSW F 225 1 st h (fun r s h' => P 102 L (pu r s) h') wt) := e127_99
theorem g127_104 : exq sa F N S rt cd127 P Q 104 L st h = (tR st fun a s => optW (hO h a 6) (fun fs => optW (fs[3]?) (fun v => P 107 L (v :: s) h) wt) wt) := e127_104
theorem g127_107 : exq sa F N S rt cd127 P Q 107 L st h = (tR st fun a s => optW (hO h a 0) (fun fs => optW (fs[2]?) (fun v => P 110 L (v :: s) h) wt) wt) := e127_107
theorem g127_112 : exq sa F N S rt cd127 P Q 112 L st h = (tR st fun a s => optW (hO h a 6) (fun fs => optW (fs[1]?) (fun v => P 115 L (v :: s) h) wt) wt) := e127_112
theorem g127_115 : exq sa F N S rt cd127 P Q 115 L st h = (tR st fun a s => optW (hO h a 4) (fun fs => optW (fs[2]?) (fun v => P 118 L (v :: s) h) wt) wt) := e127_115
theorem g128_1 : exq sa F N S rt cd128 P Q 1 L st h = (tR st fun a s => optW (hO h a 6) (fun fs => optW (fs[8]?) (fun v => P 4 L (v :: s) h) wt) wt) := e128_1
theorem g129_2 : exq sa F N S rt cd129 P Q 2 L st h = (pfdW st h 6 8 0 (fun s h' => P 5 L s h') wt) := e129_2
theorem g130_2 : exq sa F N S rt cd130 P Q 2 L st h = (pfdW st h 6 8 0 (fun s h' => P 5 L s h') wt) := e130_2
theorem g131_2 : exq sa F N S rt cd131 P Q 2 L st h = (tI st fun b s => tI s fun a s => brW (a < b) (P 14 L s h) (P 5 L s h) wt wt) := e131_2
theorem g131_7 : exq sa F N S rt cd131 P Q 7 L st h = (tI st fun b s => tI s fun a s => brW (b < a) (P 14 L s h) (P 10 L s h) wt wt) := e131_7
theorem g132_1 : exq sa F N S rt cd132 P Q 1 L st h = (tI st fun a s => brW (a = 0) (P 9 L s h) (P 4 L s h) wt wt) := e132_1
theorem g132_6 : exq sa F N S rt cd132 P Q 6 L st h = (tI st fun b s => tI s fun a s => brW (a = b) (P 9 L s h) (P 13 L s h) wt wt) := e132_6
theorem g133_1 : exq sa F N S rt cd133 P Q 1 L st h = (ivSW F 79 1 st h (fun r s h' => P 4 L (pu r s) h') wt) := e133_1
theorem g133_4 : exq sa F N S rt cd133 P Q 4 L st h = (tI st fun a s => brW (a = 0) (P 21 L s h) (P 7 L s h) wt wt) := e133_4
theorem g133_11 : exq sa F N S rt cd133 P Q 11 L st h = (ivSW F 131 3 st h (fun r s h' => P 14 L (pu r s) h') wt) := e133_11
theorem g133_14 : exq sa F N S rt cd133 P Q 14 L st h = (tI st fun a s => brW (a = 0) (P 21 L s h) (P 17 L s h) wt wt) := e133_14
theorem g134_9 : exq sa F N S rt cd134 P Q 9 L st h = (pfdW st h 7 0 2 (fun s h' => P 12 L s h') wt) := e134_9
theorem g134_17 : exq sa F N S rt cd134 P Q 17 L st h = (pfdW st h 7 1 2 (fun s h' => P 20 L s h') wt) := e134_17
theorem g134_26 : exq sa F N S rt cd134 P Q 26 L st h = (pfdW st h 7 2 2 (fun s h' => P 29 L s h') wt) := e134_26
theorem g134_34 : exq sa F N S rt cd134 P Q 34 L st h = (pfdW st h 7 5 2 (fun s h' => P 37 L s h') wt) := e134_34
theorem g134_42 : exq sa F N S rt cd134 P Q 42 L st h = (pfdW st h 7 12 2 (fun s h' => P 45 L s h') wt) := e134_42
theorem g134_50 : exq sa F N S rt cd134 P Q 50 L st h = (pfdW st h 7 13 2 (fun s h' => P 53 L s h') wt) := e134_50
theorem g134_57 : exq sa F N S rt cd134 P Q 57 L st h = (pfdW st h 7 14 2 (fun s h' => P 60 L s h') wt) := e134_57
theorem g134_65 : exq sa F N S rt cd134 P Q 65 L st h = (pfdW st h 7 16 2 (fun s h' => P 68 L s h') wt) := e134_65
theorem g134_73 : exq sa F N S rt cd134 P Q 73 L st h = (pfdW st h 7 17 2 (fun s h' => P 76 L s h') wt) := e134_73
theorem g134_81 : exq sa F N S rt cd134 P Q 81 L st h = (pfdW st h 7 18 2 (fun s h' => P 84 L s h') wt) := e134_81
theorem g134_90 : exq sa F N S rt cd134 P Q 90 L st h = (pfdW st h 7 22 2 (fun s h' => P 93 L s h') wt) := e134_90
theorem g134_98 : exq sa F N S rt cd134 P Q 98 L st h = (pfdW st h 7 23 2 (fun s h' => P 101 L s h') wt) := e134_98
theorem g134_105 : exq sa F N S rt cd134 P Q 105 L st h = (pfdW st h 7 24 2 (fun s h' => P 108 L s h') wt) := e134_105
theorem g134_113 : exq sa F N S rt cd134 P Q 113 L st h = (pfdW st h 7 25 2 (fun s h' => P 116 L s h') wt) := e134_113
theorem g134_121 : exq sa F N S rt cd134 P Q 121 L st h = (pfdW st h 7 26 2 (fun s h' => P 124 L s h') wt) := e134_121
theorem g134_129 : exq sa F N S rt cd134 P Q 129 L st h = (pfdW st h 7 28 2 (fun s h' => P 132 L s h') wt) := e134_129
theorem g134_137 : exq sa F N S rt cd134 P Q 137 L st h = (tI st fun b s => tI s fun a s => brW (b ≤ a) (P 153 L s h) (P 140 L s h) wt wt) := e134_137
theorem g134_141 : exq sa F N S rt cd134 P Q 141 L st h = (tR st fun a s => optW (hO h a 7) (fun fs => optW (fs[0]?) (fun v => P 144 L (v :: s) h) wt) wt) := e134_141
theorem g134_146 : exq sa F N S rt cd134 P Q 146 L st h = (tI st fun v s => tI s fun i s => tR s fun a s => optW (hI h a) (fun q => ixW i q.1 (fun k => P 147 L s (hS h a (.inl (0, q.1, .inl (upd q.2 k v))))) wt) wt) := e134_146
theorem g135_2 : exq sa F N S rt cd135 P Q 2 L st h = (tI st fun b s => tI s fun a s => brW (a < b) (P 14 L s h) (P 5 L s h) wt wt) := e135_2
theorem g135_7 : exq sa F N S rt cd135 P Q 7 L st h = (tI st fun b s => tI s fun a s => brW (b < a) (P 14 L s h) (P 10 L s h) wt wt) := e135_7
theorem g136_6 : exq sa F N S rt cd136 P Q 6 L st h = (tI st fun b s => tI s fun a s => brW (a = b) (P 9 L s h) (P 13 L s h) wt wt) := e136_6
theorem g137_5 : exq sa F N S rt cd137 P Q 5 L st h = (tI st fun a s => brW (a = 0) (P 20 L s h) (P 8 L s h) wt wt) := e137_5
theorem g138_2 : exq sa F N S rt cd138 P Q 2 L st h = (pfdW st h 7 3 0 (fun s h' => P 5 L s h') wt) := e138_2
theorem g139_2 : exq sa F N S rt cd139 P Q 2 L st h = (pfdW st h 7 3 0 (fun s h' => P 5 L s h') wt) := e139_2
theorem g140_1 : exq sa F N S rt cd140 P Q 1 L st h = (tR st fun a s => optW (hO h a 7) (fun fs => optW (fs[3]?) (fun v => P 4 L (v :: s) h) wt) wt) := e140_1
theorem g141_4 : exq sa F N S rt cd141 P Q 4 L st h = (ivSW F 135 3 st h (fun r s h' => P 7 L (pu r s) h') wt) := e141_4
theorem g142_1 : exq sa F N S rt cd142 P Q 1 L st h = (tI st fun a s => brW (a < 0) (P 34 L s h) (P 4 L s h) wt wt) := e142_1
theorem g142_5 : exq sa F N S rt cd142 P Q 5 L st h = (tI st fun a s => brW (a < 0) (P 34 L s h) (P 8 L s h) wt wt) := e142_5
theorem g142_10 : exq sa F N S rt cd142 P Q 10 L st h = (tR st fun a s => optW (hO h a 7) (fun fs => optW (fs[0]?) (fun v => P 13 L (v :: s) h) wt) wt) := e142_10
theorem g142_14 : exq sa F N S rt cd142 P Q 14 L st h = (aldW sa st h (fun v s => P 15 L (.int v :: s) h) wt) := e142_14
theorem g142_15 : exq sa F N S rt cd142 P Q 15 L st h = (tI st fun b s => tI s fun a s => brW (b < a) (P 34 L s h) (P 18 L s h) wt wt) := e142_15
theorem g142_20 : exq sa F N S rt cd142 P Q 20 L st h = (tR st fun a s => optW (hO h a 7) (fun fs => optW (fs[0]?) (fun v => P 23 L (v :: s) h) wt) wt) := e142_20
theorem g142_24 : exq sa F N S rt cd142 P Q 24 L st h = (aldW sa st h (fun v s => P 25 L (.int v :: s) h) wt) := e142_24
theorem g142_27 : exq sa F N S rt cd142 P Q 27 L st h = (tI st fun b s => tI s fun a s => brW (b < a) (P 34 L s h) (P 30 L s h) wt wt) := e142_27
theorem g143_1 : exq sa F N S rt cd143 P Q 1 L st h = (tR st fun a s => optW (hO h a 7) (fun fs => optW (fs[2]?) (fun v => P 4 L (v :: s) h) wt) wt) := e143_1
theorem g143_10 : exq sa F N S rt cd143 P Q 10 L st h = (aldW sa st h (fun v s => P 11 L (.int v :: s) h) wt) := e143_10
theorem g144_1 : exq sa F N S rt cd144 P Q 1 L st h = (ivSW F 141 1 st h (fun r s h' => P 4 L (pu r s) h') wt) := e144_1
theorem g144_4 : exq sa F N S rt cd144 P Q 4 L st h = (tI st fun a s => brW (a = 0) (P 22 L s h) (P 7 L s h) wt wt) := e144_4
theorem g144_10 : exq sa F N S rt cd144 P Q 10 L st h = (ivSW F 135 3 st h (fun r s h' => P 13 L (pu r s) h') wt) := e144_10
theorem g144_13 : exq sa F N S rt cd144 P Q 13 L st h = (tI st fun a s => brW (a = 0) (P 22 L s h) (P 16 L s h) wt wt) := e144_13
theorem g144_19 : exq sa F N S rt cd144 P Q 19 L st h = (tI st fun b s => tI s fun a s => brW (a ≤ b) (P 25 L s h) (P 22 L s h) wt wt) := e144_19
theorem g144_26 : exq sa F N S rt cd144 P Q 26 L st h = (tI st fun a s => brW (0 ≤ a) (P 35 L s h) (P 29 L s h) wt wt) := e144_26
theorem g144_31 : exq sa F N S rt cd144 P Q 31 L st h = (ivVW F 138 2 7 st h (fun r s h' => P 34 L (pu r s) h') wt) := e144_31
theorem g144_36 : exq sa F N S rt cd144 P Q 36 L st h = (tR st fun a s => optW (hO h a 7) (fun fs => optW (fs[0]?) (fun v => P 39 L (v :: s) h) wt) wt) := e144_36
theorem g144_41 : exq sa F N S rt cd144 P Q 41 L st h = (tI st fun v s => tI s fun i s => tR s fun a s => optW (hI h a) (fun q => ixW i q.1 (fun k => P 42 L s (hS h a (.inl (0, q.1, .inl (upd q.2 k v))))) wt) wt) := e144_41
theorem g144_43 : exq sa F N S rt cd144 P Q 43 L st h = (tR st fun a s => optW (hO h a 7) (fun fs => optW (fs[1]?) (fun v => P 46 L (v :: s) h) wt) wt) := e144_43
theorem g144_48 : exq sa F N S rt cd144 P Q 48 L st h = (tI st fun v s => tI s fun i s => tR s fun a s => optW (hI h a) (fun q => ixW i q.1 (fun k => P 49 L s (hS h a (.inl (0, q.1, .inl (upd q.2 k v))))) wt) wt) := e144_48
theorem g144_55 : exq sa F N S rt cd144 P Q 55 L st h = (tI st fun b s => tI s fun a s => brW (b ≤ a) (P 77 L s h) (P 58 L s h) wt wt) := e144_55
theorem g144_59 : exq sa F N S rt cd144 P Q 59 L st h = (tR st fun a s => optW (hO h a 7) (fun fs => optW (fs[2]?) (fun v => P 62 L (v :: s) h) wt) wt) := e144_59
theorem g144_70 : exq sa F N S rt cd144 P Q 70 L st h = (tI st fun v s => tI s fun i s => tR s fun a s => optW (hI h a) (fun q => ixW i q.1 (fun k => P 71 L s (hS h a (.inl (0, q.1, .inl (upd q.2 k v))))) wt) wt) := e144_70
theorem g144_79 : exq sa F N S rt cd144 P Q 79 L st h = (ivVW F 139 2 7 st h (fun r s h' => P 82 L (pu r s) h') wt) := e144_79
theorem g145_1 : exq sa F N S rt cd145 P Q 1 L st h = (ivSW F 141 1 st h (fun r s h' => P 4 L (pu r s) h') wt) := e145_1
theorem g145_4 : exq sa F N S rt cd145 P Q 4 L st h = (tI st fun a s => brW (a = 0) (P 7 L s h) (P 10 L s h) wt wt) := e145_4
theorem g145_11 : exq sa F N S rt cd145 P Q 11 L st h = (tR st fun a s => optW (hO h a 7) (fun fs => optW (fs[0]?) (fun v => P 14 L (v :: s) h) wt) wt) := e145_11
theorem g145_15 : exq sa F N S rt cd145 P Q 15 L st h = (aldW sa st h (fun v s => P 16 L (.int v :: s) h) wt) := e145_15
theorem g145_16 : exq sa F N S rt cd145 P Q 16 L st h = (tI st fun a s => brW (0 ≤ a) (P 25 L s h) (P 19 L s h) wt wt) := e145_16
theorem g145_21 : exq sa F N S rt cd145 P Q 21 L st h = (ivVW F 138 2 7 st h (fun r s h' => P 24 L (pu r s) h') wt) := e145_21
theorem g145_28 : exq sa F N S rt cd145 P Q 28 L st h = (tR st fun a s => optW (hO h a 7) (fun fs => optW (fs[0]?) (fun v => P 31 L (v :: s) h) wt) wt) := e145_28
theorem g145_32 : exq sa F N S rt cd145 P Q 32 L st h = (aldW sa st h (fun v s => P 33 L (.int v :: s) h) wt) := e145_32
theorem g145_35 : exq sa F N S rt cd145 P Q 35 L st h = (ivSW F 135 3 st h (fun r s h' => P 38 L (pu r s) h') wt) := e145_35
theorem g145_38 : exq sa F N S rt cd145 P Q 38 L st h = (tI st fun a s => brW (a = 0) (P 41 L s h) (P 47 L s h) wt wt) := e145_38
theorem g145_43 : exq sa F N S rt cd145 P Q 43 L st h = (ivVW F 138 2 7 st h (fun r s h' => P 46 L (pu r s) h') wt) := e145_43
theorem g145_48 : exq sa F N S rt cd145 P Q 48 L st h = (tR st fun a s => optW (hO h a 7) (fun fs => optW (fs[1]?) (fun v => P 51 L (v :: s) h) wt) wt) := e145_48
theorem g145_52 : exq sa F N S rt cd145 P Q 52 L st h = (aldW sa st h (fun v s => P 53 L (.int v :: s) h) wt) := e145_52
theorem g145_53 : exq sa F N S rt cd145 P Q 53 L st h = (tI st fun a s => brW (a = 0) (P 56 L s h) (P 61 L s h) wt wt) := e145_53
theorem g145_62 : exq sa F N S rt cd145 P Q 62 L st h = (tR st fun a s => optW (hO h a 7) (fun fs => optW (fs[1]?) (fun v => P 65 L (v :: s) h) wt) wt) := e145_62
theorem g145_66 : exq sa F N S rt cd145 P Q 66 L st h = (aldW sa st h (fun v s => P 67 L (.int v :: s) h) wt) := e145_66
theorem g145_68 : exq sa F N S rt cd145 P Q 68 L st h = (tI st fun b s => tI s fun a s => brW (a = b) (P 71 L s h) (P 76 L s h) wt wt) := e145_68
theorem g145_80 : exq sa F N S rt cd145 P Q 80 L st h = (tR st fun a s => optW (hO h a 7) (fun fs => optW (fs[2]?) (fun v => P 83 L (v :: s) h) wt) wt) := e145_80
theorem g145_91 : exq sa F N S rt cd145 P Q 91 L st h = (tI st fun v s => tI s fun i s => tR s fun a s => optW (hI h a) (fun q => ixW i q.1 (fun k => P 92 L s (hS h a (.inl (0, q.1, .inl (upd q.2 k v))))) wt) wt) := e145_91
theorem g145_95 : exq sa F N S rt cd145 P Q 95 L st h = (ivVW F 139 2 7 st h (fun r s h' => P 98 L (pu r s) h') wt) := e145_95
theorem g146_1 : exq sa F N S rt cd146 P Q 1 L st h = (ivSW F 141 1 st h (fun r s h' => P 4 L (pu r s) h') wt) := e146_1
theorem g146_4 : exq sa F N S rt cd146 P Q 4 L st h = (tI st fun a s => brW (a = 0) (P 14 L s h) (P 7 L s h) wt wt) := e146_4
theorem g146_8 : exq sa F N S rt cd146 P Q 8 L st h = (ivSW F 141 1 st h (fun r s h' => P 11 L (pu r s) h') wt) := e146_8
theorem g146_11 : exq sa F N S rt cd146 P Q 11 L st h = (tI st fun a s => brW (a = 0) (P 14 L s h) (P 17 L s h) wt wt) := e146_11
theorem g146_18 : exq sa F N S rt cd146 P Q 18 L st h = (tR st fun a s => optW (hO h a 7) (fun fs => optW (fs[0]?) (fun v => P 21 L (v :: s) h) wt) wt) := e146_18
theorem g146_22 : exq sa F N S rt cd146 P Q 22 L st h = (aldW sa st h (fun v s => P 23 L (.int v :: s) h) wt) := e146_22
theorem g146_23 : exq sa F N S rt cd146 P Q 23 L st h = (tI st fun a s => brW (a < 0) (P 35 L s h) (P 26 L s h) wt wt) := e146_23
theorem g146_27 : exq sa F N S rt cd146 P Q 27 L st h = (tR st fun a s => optW (hO h a 7) (fun fs => optW (fs[0]?) (fun v => P 30 L (v :: s) h) wt) wt) := e146_27
theorem g146_31 : exq sa F N S rt cd146 P Q 31 L st h = (aldW sa st h (fun v s => P 32 L (.int v :: s) h) wt) := e146_31
theorem g146_32 : exq sa F N S rt cd146 P Q 32 L st h = (tI st fun a s => brW (0 ≤ a) (P 41 L s h) (P 35 L s h) wt wt) := e146_32
theorem g146_37 : exq sa F N S rt cd146 P Q 37 L st h = (ivVW F 138 2 7 st h (fun r s h' => P 40 L (pu r s) h') wt) := e146_37
theorem g146_42 : exq sa F N S rt cd146 P Q 42 L st h = (tR st fun a s => optW (hO h a 7) (fun fs => optW (fs[1]?) (fun v => P 45 L (v :: s) h) wt) wt) := e146_42
theorem g146_46 : exq sa F N S rt cd146 P Q 46 L st h = (aldW sa st h (fun v s => P 47 L (.int v :: s) h) wt) := e146_46
theorem g146_48 : exq sa F N S rt cd146 P Q 48 L st h = (tR st fun a s => optW (hO h a 7) (fun fs => optW (fs[1]?) (fun v => P 51 L (v :: s) h) wt) wt) := e146_48
theorem g146_52 : exq sa F N S rt cd146 P Q 52 L st h = (aldW sa st h (fun v s => P 53 L (.int v :: s) h) wt) := e146_52
theorem g146_53 : exq sa F N S rt cd146 P Q 53 L st h = (tI st fun b s => tI s fun a s => brW (a = b) (P 62 L s h) (P 56 L s h) wt wt) := e146_53
theorem g146_58 : exq sa F N S rt cd146 P Q 58 L st h = (ivVW F 138 2 7 st h (fun r s h' => P 61 L (pu r s) h') wt) := e146_58
theorem g146_67 : exq sa F N S rt cd146 P Q 67 L st h = (ivVW F 142 4 7 st h (fun r s h' => P 70 L (pu r s) h') wt) := e146_67
theorem g146_70 : exq sa F N S rt cd146 P Q 70 L st h = (tI st fun a s => brW (a = 0) (P 85 L s h) (P 73 L s h) wt wt) := e146_70
theorem g146_79 : exq sa F N S rt cd146 P Q 79 L st h = (ivVW F 142 4 7 st h (fun r s h' => P 82 L (pu r s) h') wt) := e146_79
theorem g146_82 : exq sa F N S rt cd146 P Q 82 L st h = (tI st fun a s => brW (a = 0) (P 85 L s h) (P 91 L s h) wt wt) := e146_82
theorem g146_87 : exq sa F N S rt cd146 P Q 87 L st h = (ivVW F 138 2 7 st h (fun r s h' => P 90 L (pu r s) h') wt) := e146_87
theorem g146_93 : exq sa F N S rt cd146 P Q 93 L st h = (tI st fun b s => tI s fun a s => brW (a = b) (P 96 L s h) (P 106 L s h) wt wt) := e146_93
theorem g146_99 : exq sa F N S rt cd146 P Q 99 L st h = (tI st fun b s => tI s fun a s => brW (a ≤ b) (P 106 L s h) (P 102 L s h) wt wt) := e146_99
theorem g146_116 : exq sa F N S rt cd146 P Q 116 L st h = (tI st fun b s => tI s fun a s => brW (b ≤ a) (P 173 L s h) (P 119 L s h) wt wt) := e146_116
theorem g146_121 : exq sa F N S rt cd146 P Q 121 L st h = (tI st fun a s => brW (a = 0) (P 134 L s h) (P 124 L s h) wt wt) := e146_121
theorem g146_139 : exq sa F N S rt cd146 P Q 139 L st h = (tR st fun a s => optW (hO h a 7) (fun fs => optW (fs[2]?) (fun v => P 142 L (v :: s) h) wt) wt) := e146_139
theorem g146_153 : exq sa F N S rt cd146 P Q 153 L st h = (tR st fun a s => optW (hO h a 7) (fun fs => optW (fs[2]?) (fun v => P 156 L (v :: s) h) wt) wt) := e146_153
theorem g146_165 : exq sa F N S rt cd146 P Q 165 L st h = (aldW sa st h (fun v s => P 166 L (.int v :: s) h) wt) := e146_165
theorem g146_166 : exq sa F N S rt cd146 P Q 166 L st h = (tI st fun v s => tI s fun i s => tR s fun a s => optW (hI h a) (fun q => ixW i q.1 (fun k => P 167 L s (hS h a (.inl (0, q.1, .inl (upd q.2 k v))))) wt) wt) := e146_166
theorem g146_176 : exq sa F N S rt cd146 P Q 176 L st h = (ivVW F 139 2 7 st h (fun r s h' => P 179 L (pu r s) h') wt) := e146_176
theorem g147_1 : exq sa F N S rt cd147 P Q 1 L st h = (ivSW F 141 1 st h (fun r s h' => P 4 L (pu r s) h') wt) := e147_1
theorem g147_4 : exq sa F N S rt cd147 P Q 4 L st h = (tI st fun a s => brW (a = 0) (P 7 L s h) (P 10 L s h) wt wt) := e147_4
theorem g147_11 : exq sa F N S rt cd147 P Q 11 L st h = (tR st fun a s => optW (hO h a 7) (fun fs => optW (fs[0]?) (fun v => P 14 L (v :: s) h) wt) wt) := e147_11
theorem g147_15 : exq sa F N S rt cd147 P Q 15 L st h = (aldW sa st h (fun v s => P 16 L (.int v :: s) h) wt) := e147_15
theorem g147_16 : exq sa F N S rt cd147 P Q 16 L st h = (tI st fun a s => brW (0 ≤ a) (P 25 L s h) (P 19 L s h) wt wt) := e147_16
theorem g147_21 : exq sa F N S rt cd147 P Q 21 L st h = (ivVW F 138 2 7 st h (fun r s h' => P 24 L (pu r s) h') wt) := e147_21
theorem g147_26 : exq sa F N S rt cd147 P Q 26 L st h = (tR st fun a s => optW (hO h a 7) (fun fs => optW (fs[0]?) (fun v => P 29 L (v :: s) h) wt) wt) := e147_26
theorem g147_30 : exq sa F N S rt cd147 P Q 30 L st h = (aldW sa st h (fun v s => P 31 L (.int v :: s) h) wt) := e147_30
theorem g147_33 : exq sa F N S rt cd147 P Q 33 L st h = (tR st fun a s => optW (hO h a 7) (fun fs => optW (fs[0]?) (fun v => P 36 L (v :: s) h) wt) wt) := e147_33
theorem g147_38 : exq sa F N S rt cd147 P Q 38 L st h = (tI st fun v s => tI s fun i s => tR s fun a s => optW (hI h a) (fun q => ixW i q.1 (fun k => P 39 L s (hS h a (.inl (0, q.1, .inl (upd q.2 k v))))) wt) wt) := e147_38
theorem g147_41 : exq sa F N S rt cd147 P Q 41 L st h = (ivVW F 139 2 7 st h (fun r s h' => P 44 L (pu r s) h') wt) := e147_41
theorem g148_5 : exq sa F N S rt cd148 P Q 5 L st h = (ivSW F 135 3 st h (fun r s h' => P 8 L (pu r s) h') wt) := e148_5
theorem g148_8 : exq sa F N S rt cd148 P Q 8 L st h = (tI st fun a s => brW (a = 0) (P 11 L s h) (P 14 L s h) wt wt) := e148_8
theorem g148_15 : exq sa F N S rt cd148 P Q 15 L st h = (tR st fun a s => optW (hO h a 7) (fun fs => optW (fs[4]?) (fun v => P 18 L (v :: s) h) wt) wt) := e148_15
theorem g148_20 : exq sa F N S rt cd148 P Q 20 L st h = (tI st fun b s => tI s fun a s => brW (a = b) (P 23 L s h) (P 26 L s h) wt wt) := e148_20
theorem g148_27 : exq sa F N S rt cd148 P Q 27 L st h = (tR st fun a s => optW (hO h a 7) (fun fs => optW (fs[5]?) (fun v => P 30 L (v :: s) h) wt) wt) := e148_27
theorem g148_31 : exq sa F N S rt cd148 P Q 31 L st h = (tR st fun a s => optW (hO h a 7) (fun fs => optW (fs[4]?) (fun v => P 34 L (v :: s) h) wt) wt) := e148_31
theorem g148_35 : exq sa F N S rt cd148 P Q 35 L st h = (tI st fun v s => tI s fun i s => tR s fun a s => optW (hI h a) (fun q => ixW i q.1 (fun k => P 36 L s (hS h a (.inl (0, q.1, .inl (upd q.2 k v))))) wt) wt) := e148_35
theorem g148_38 : exq sa F N S rt cd148 P Q 38 L st h = (tR st fun a s => optW (hO h a 7) (fun fs => optW (fs[4]?) (fun v => P 41 L (v :: s) h) wt) wt) := e148_38
theorem g148_43 : exq sa F N S rt cd148 P Q 43 L st h = (pfdW st h 7 4 0 (fun s h' => P 46 L s h') wt) := e148_43
theorem g148_47 : exq sa F N S rt cd148 P Q 47 L st h = (tR st fun a s => optW (hO h a 7) (fun fs => optW (fs[4]?) (fun v => P 50 L (v :: s) h) wt) wt) := e148_47
theorem g149_2 : exq sa F N S rt cd149 P Q 2 L st h = (tR st fun a s => optW (hO h a 7) (fun fs => optW (fs[4]?) (fun v => P 5 L (v :: s) h) wt) wt) := e149_2
theorem g149_5 : exq sa F N S rt cd149 P Q 5 L st h = (tI st fun b s => tI s fun a s => brW (b ≤ a) (P 17 L s h) (P 8 L s h) wt wt) := e149_5
theorem g149_9 : exq sa F N S rt cd149 P Q 9 L st h = (tR st fun a s => optW (hO h a 7) (fun fs => optW (fs[5]?) (fun v => P 12 L (v :: s) h) wt) wt) := e149_9
theorem g149_13 : exq sa F N S rt cd149 P Q 13 L st h = (aldW sa st h (fun v s => P 14 L (.int v :: s) h) wt) := e149_13
theorem g150_5 : exq sa F N S rt cd150 P Q 5 L st h = (ivSW F 135 3 st h (fun r s h' => P 8 L (pu r s) h') wt) := e150_5
theorem g151_2 : exq sa F N S rt cd151 P Q 2 L st h = (tR st fun a s => optW (hO h a 7) (fun fs => optW (fs[6]?) (fun v => P 5 L (v :: s) h) wt) wt) := e151_2
theorem g151_5 : exq sa F N S rt cd151 P Q 5 L st h = (pfdW st h 7 9 0 (fun s h' => P 8 L s h') wt) := e151_5
theorem g151_10 : exq sa F N S rt cd151 P Q 10 L st h = (tR st fun a s => optW (hO h a 7) (fun fs => optW (fs[6]?) (fun v => P 13 L (v :: s) h) wt) wt) := e151_10
theorem g151_13 : exq sa F N S rt cd151 P Q 13 L st h = (ivVW F 149 2 7 st h (fun r s h' => P 16 L (pu r s) h') wt) := e151_13
theorem g151_18 : exq sa F N S rt cd151 P Q 18 L st h = (tR st fun a s => optW (hO h a 7) (fun fs => optW (fs[6]?) (fun v => P 21 L (v :: s) h) wt) wt) := e151_18
theorem g151_22 : exq sa F N S rt cd151 P Q 22 L st h = (tR st fun a s => optW (hO h a 7) (fun fs => optW (fs[4]?) (fun v => P 25 L (v :: s) h) wt) wt) := e151_22
theorem g151_25 : exq sa F N S rt cd151 P Q 25 L st h = (tI st fun b s => tI s fun a s => brW (a = b) (P 28 L s h) (P 36 L s h) wt wt) := e151_25
theorem g151_30 : exq sa F N S rt cd151 P Q 30 L st h = (pfdW st h 7 7 0 (fun s h' => P 33 L s h') wt) := e151_30
theorem g151_37 : exq sa F N S rt cd151 P Q 37 L st h = (ivSW F 150 1 st h (fun r s h' => P 40 L (pu r s) h') wt) := e151_37
theorem g151_40 : exq sa F N S rt cd151 P Q 40 L st h = (tI st fun a s => brW (a = 0) (P 140 L s h) (P 43 L s h) wt wt) := e151_40
theorem g151_45 : exq sa F N S rt cd151 P Q 45 L st h = (pfdW st h 7 8 0 (fun s h' => P 48 L s h') wt) := e151_45
theorem g151_50 : exq sa F N S rt cd151 P Q 50 L st h = (tR st fun a s => optW (hO h a 7) (fun fs => optW (fs[6]?) (fun v => P 53 L (v :: s) h) wt) wt) := e151_50
theorem g151_53 : exq sa F N S rt cd151 P Q 53 L st h = (ivVW F 149 2 7 st h (fun r s h' => P 56 L (pu r s) h') wt) := e151_53
theorem g151_56 : exq sa F N S rt cd151 P Q 56 L st h = (ivSW F 150 1 st h (fun r s h' => P 59 L (pu r s) h') wt) := e151_56
theorem g151_59 : exq sa F N S rt cd151 P Q 59 L st h = (tI st fun a s => brW (a = 0) (P 114 L s h) (P 62 L s h) wt wt) := e151_59
theorem g151_64 : exq sa F N S rt cd151 P Q 64 L st h = (tR st fun a s => optW (hO h a 7) (fun fs => optW (fs[8]?) (fun v => P 67 L (v :: s) h) wt) wt) := e151_64
theorem g151_69 : exq sa F N S rt cd151 P Q 69 L st h = (tI st fun b s => tI s fun a s => brW (a ≤ b) (P 79 L s h) (P 72 L s h) wt wt) := e151_69
theorem g151_73 : exq sa F N S rt cd151 P Q 73 L st h = (tR st fun a s => optW (hO h a 7) (fun fs => optW (fs[8]?) (fun v => P 76 L (v :: s) h) wt) wt) := e151_73
theorem g151_82 : exq sa F N S rt cd151 P Q 82 L st h = (tR st fun a s => optW (hO h a 7) (fun fs => optW (fs[8]?) (fun v => P 85 L (v :: s) h) wt) wt) := e151_82
theorem g151_88 : exq sa F N S rt cd151 P Q 88 L st h = (tR st fun a s => optW (hO h a 7) (fun fs => optW (fs[6]?) (fun v => P 91 L (v :: s) h) wt) wt) := e151_88
theorem g151_91 : exq sa F N S rt cd151 P Q 91 L st h = (ivVW F 149 2 7 st h (fun r s h' => P 94 L (pu r s) h') wt) := e151_91
theorem g151_98 : exq sa F N S rt cd151 P Q 98 L st h = (pfdW st h 7 8 0 (fun s h' => P 101 L s h') wt) := e151_98
theorem g151_103 : exq sa F N S rt cd151 P Q 103 L st h = (tR st fun a s => optW (hO h a 7) (fun fs => optW (fs[6]?) (fun v => P 106 L (v :: s) h) wt) wt) := e151_103
theorem g151_108 : exq sa F N S rt cd151 P Q 108 L st h = (pfdW st h 7 6 0 (fun s h' => P 111 L s h') wt) := e151_108
theorem g151_116 : exq sa F N S rt cd151 P Q 116 L st h = (tR st fun a s => optW (hO h a 7) (fun fs => optW (fs[6]?) (fun v => P 119 L (v :: s) h) wt) wt) := e151_116
theorem g151_120 : exq sa F N S rt cd151 P Q 120 L st h = (tR st fun a s => optW (hO h a 7) (fun fs => optW (fs[9]?) (fun v => P 123 L (v :: s) h) wt) wt) := e151_120
theorem g151_125 : exq sa F N S rt cd151 P Q 125 L st h = (tI st fun b s => tI s fun a s => brW (a ≤ b) (P 132 L s h) (P 128 L s h) wt wt) := e151_125
theorem g151_134 : exq sa F N S rt cd151 P Q 134 L st h = (pfdW st h 7 7 0 (fun s h' => P 137 L s h') wt) := e151_134
theorem g151_142 : exq sa F N S rt cd151 P Q 142 L st h = (tR st fun a s => optW (hO h a 7) (fun fs => optW (fs[6]?) (fun v => P 145 L (v :: s) h) wt) wt) := e151_142
theorem g151_147 : exq sa F N S rt cd151 P Q 147 L st h = (pfdW st h 7 6 0 (fun s h' => P 150 L s h') wt) := e151_147
theorem g151_156 : exq sa F N S rt cd151 P Q 156 L st h = (ivSW F 135 3 st h (fun r s h' => P 159 L (pu r s) h') wt) := e151_156
theorem g151_159 : exq sa F N S rt cd151 P Q 159 L st h = (tI st fun a s => brW (a = 0) (P 162 L s h) (P 174 L s h) wt wt) := e151_159
theorem g151_165 : exq sa F N S rt cd151 P Q 165 L st h = (tI st fun b s => tI s fun a s => brW (a = b) (P 174 L s h) (P 168 L s h) wt wt) := e151_165
theorem g151_171 : exq sa F N S rt cd151 P Q 171 L st h = (tI st fun b s => tI s fun a s => brW (a = b) (P 174 L s h) (P 178 L s h) wt wt) := e151_171
theorem g151_179 : exq sa F N S rt cd151 P Q 179 L st h = (pfdW st h 7 7 0 (fun s h' => P 182 L s h') wt) := e151_179
theorem g152_2 : exq sa F N S rt cd152 P Q 2 L st h = (pfdW st h 7 10 0 (fun s h' => P 5 L s h') wt) := e152_2
theorem g153_1 : exq sa F N S rt cd153 P Q 1 L st h = (ivVW F 151 1 7 st h (fun r s h' => P 4 L (pu r s) h') wt) := e153_1
theorem g153_5 : exq sa F N S rt cd153 P Q 5 L st h = (tR st fun a s => optW (hO h a 7) (fun fs => optW (fs[7]?) (fun v => P 8 L (v :: s) h) wt) wt) := e153_5
theorem g153_10 : exq sa F N S rt cd153 P Q 10 L st h = (tI st fun b s => tI s fun a s => brW (a = b) (P 19 L s h) (P 13 L s h) wt wt) := e153_10
theorem g153_15 : exq sa F N S rt cd153 P Q 15 L st h = (ivVW F 152 2 7 st h (fun r s h' => P 18 L (pu r s) h') wt) := e153_15
theorem g153_22 : exq sa F N S rt cd153 P Q 22 L st h = (tR st fun a s => optW (hO h a 7) (fun fs => optW (fs[8]?) (fun v => P 25 L (v :: s) h) wt) wt) := e153_22
theorem g153_25 : exq sa F N S rt cd153 P Q 25 L st h = (tI st fun v s => tI s fun i s => tR s fun a s => optW (hI h a) (fun q => ixW i q.1 (fun k => P 26 L s (hS h a (.inl (0, q.1, .inl (upd q.2 k v))))) wt) wt) := e153_25
theorem g153_27 : exq sa F N S rt cd153 P Q 27 L st h = (tR st fun a s => optW (hO h a 7) (fun fs => optW (fs[8]?) (fun v => P 30 L (v :: s) h) wt) wt) := e153_27
theorem g153_33 : exq sa F N S rt cd153 P Q 33 L st h = (ivSW F 135 3 st h (fun r s h' => P 36 L (pu r s) h') wt) := e153_33
theorem g153_36 : exq sa F N S rt cd153 P Q 36 L st h = (tI st fun a s => brW (a = 0) (P 39 L s h) (P 47 L s h) wt wt) := e153_36
theorem g153_41 : exq sa F N S rt cd153 P Q 41 L st h = (ivVW F 152 2 7 st h (fun r s h' => P 44 L (pu r s) h') wt) := e153_41
theorem g153_44 : exq sa F N S rt cd153 P Q 44 L st h = (tI st fun a s => brW (a = 0) (P 51 L s h) (P 47 L s h) wt wt) := e153_44
theorem g154_1 : exq sa F N S rt cd154 P Q 1 L st h = (ivVW F 151 1 7 st h (fun r s h' => P 4 L (pu r s) h') wt) := e154_1
theorem g154_5 : exq sa F N S rt cd154 P Q 5 L st h = (tR st fun a s => optW (hO h a 7) (fun fs => optW (fs[7]?) (fun v => P 8 L (v :: s) h) wt) wt) := e154_5
theorem g154_9 : exq sa F N S rt cd154 P Q 9 L st h = (tI st fun b s => tI s fun a s => brW (a = b) (P 20 L s h) (P 12 L s h) wt wt) := e154_9
theorem g154_14 : exq sa F N S rt cd154 P Q 14 L st h = (ivVW F 152 2 7 st h (fun r s h' => P 17 L (pu r s) h') wt) := e154_14
theorem g154_17 : exq sa F N S rt cd154 P Q 17 L st h = (tI st fun a s => brW (a = 0) (P 24 L s h) (P 20 L s h) wt wt) := e154_17
theorem g155_1 : exq sa F N S rt cd155 P Q 1 L st h = (tR st fun a s => optW (hO h a 7) (fun fs => optW (fs[7]?) (fun v => P 4 L (v :: s) h) wt) wt) := e155_1
theorem g155_6 : exq sa F N S rt cd155 P Q 6 L st h = (tI st fun b s => tI s fun a s => brW (a = b) (P 9 L s h) (P 65 L s h) wt wt) := e155_6
theorem g155_11 : exq sa F N S rt cd155 P Q 11 L st h = (tR st fun a s => optW (hO h a 7) (fun fs => optW (fs[12]?) (fun v => P 14 L (v :: s) h) wt) wt) := e155_11
theorem g155_18 : exq sa F N S rt cd155 P Q 18 L st h = (ivVW F 153 5 7 st h (fun r s h' => P 21 L (pu r s) h') wt) := e155_18
theorem g155_21 : exq sa F N S rt cd155 P Q 21 L st h = (tI st fun a s => brW (a = 0) (P 61 L s h) (P 24 L s h) wt wt) := e155_21
theorem g155_27 : exq sa F N S rt cd155 P Q 27 L st h = (ivVW F 154 2 7 st h (fun r s h' => P 30 L (pu r s) h') wt) := e155_27
theorem g155_30 : exq sa F N S rt cd155 P Q 30 L st h = (tI st fun a s => brW (a = 0) (P 61 L s h) (P 33 L s h) wt wt) := e155_30
theorem g155_35 : exq sa F N S rt cd155 P Q 35 L st h = (tR st fun a s => optW (hO h a 7) (fun fs => optW (fs[12]?) (fun v => P 38 L (v :: s) h) wt) wt) := e155_35
theorem g155_42 : exq sa F N S rt cd155 P Q 42 L st h = (ivVW F 153 5 7 st h (fun r s h' => P 45 L (pu r s) h') wt) := e155_42
theorem g155_45 : exq sa F N S rt cd155 P Q 45 L st h = (tI st fun a s => brW (a = 0) (P 61 L s h) (P 48 L s h) wt wt) := e155_45
theorem g155_51 : exq sa F N S rt cd155 P Q 51 L st h = (ivVW F 154 2 7 st h (fun r s h' => P 54 L (pu r s) h') wt) := e155_51
theorem g155_54 : exq sa F N S rt cd155 P Q 54 L st h = (tI st fun a s => brW (a = 0) (P 61 L s h) (P 57 L s h) wt wt) := e155_54
theorem g155_67 : exq sa F N S rt cd155 P Q 67 L st h = (ivVW F 152 2 7 st h (fun r s h' => P 70 L (pu r s) h') wt) := e155_67
theorem g156_1 : exq sa F N S rt cd156 P Q 1 L st h = (tR st fun a s => optW (hO h a 7) (fun fs => optW (fs[12]?) (fun v => P 4 L (v :: s) h) wt) wt) := e156_1
theorem g156_5 : exq sa F N S rt cd156 P Q 5 L st h = (aldW sa st h (fun v s => P 6 L (.int v :: s) h) wt) := e156_5
theorem g156_8 : exq sa F N S rt cd156 P Q 8 L st h = (tI st fun b s => tI s fun a s => brW (a = b) (P 11 L s h) (P 17 L s h) wt wt) := e156_8
theorem g156_13 : exq sa F N S rt cd156 P Q 13 L st h = (ivVW F 152 2 7 st h (fun r s h' => P 16 L (pu r s) h') wt) := e156_13
theorem g156_18 : exq sa F N S rt cd156 P Q 18 L st h = (tR st fun a s => optW (hO h a 7) (fun fs => optW (fs[12]?) (fun v => P 21 L (v :: s) h) wt) wt) := e156_18
theorem g156_22 : exq sa F N S rt cd156 P Q 22 L st h = (aldW sa st h (fun v s => P 23 L (.int v :: s) h) wt) := e156_22
theorem g156_25 : exq sa F N S rt cd156 P Q 25 L st h = (tR st fun a s => optW (hO h a 7) (fun fs => optW (fs[12]?) (fun v => P 28 L (v :: s) h) wt) wt) := e156_25
theorem g156_30 : exq sa F N S rt cd156 P Q 30 L st h = (aldW sa st h (fun v s => P 31 L (.int v :: s) h) wt) := e156_30
theorem g156_33 : exq sa F N S rt cd156 P Q 33 L st h = (tI st fun v s => tI s fun i s => tR s fun a s => optW (hI h a) (fun q => ixW i q.1 (fun k => P 34 L s (hS h a (.inl (0, q.1, .inl (upd q.2 k v))))) wt) wt) := e156_33
theorem g156_36 : exq sa F N S rt cd156 P Q 36 L st h = (tR st fun a s => optW (hO h a 7) (fun fs => optW (fs[13]?) (fun v => P 39 L (v :: s) h) wt) wt) := e156_36
theorem g156_44 : exq sa F N S rt cd156 P Q 44 L st h = (tR st fun a s => optW (hO h a 7) (fun fs => optW (fs[12]?) (fun v => P 47 L (v :: s) h) wt) wt) := e156_44
theorem g156_48 : exq sa F N S rt cd156 P Q 48 L st h = (aldW sa st h (fun v s => P 49 L (.int v :: s) h) wt) := e156_48
theorem g156_51 : exq sa F N S rt cd156 P Q 51 L st h = (ivVW F 153 5 7 st h (fun r s h' => P 54 L (pu r s) h') wt) := e156_51
theorem g156_54 : exq sa F N S rt cd156 P Q 54 L st h = (tI st fun a s => brW (a = 0) (P 123 L s h) (P 57 L s h) wt wt) := e156_54
theorem g156_60 : exq sa F N S rt cd156 P Q 60 L st h = (ivVW F 154 2 7 st h (fun r s h' => P 63 L (pu r s) h') wt) := e156_60
theorem g156_63 : exq sa F N S rt cd156 P Q 63 L st h = (tI st fun a s => brW (a = 0) (P 123 L s h) (P 66 L s h) wt wt) := e156_63
theorem g156_68 : exq sa F N S rt cd156 P Q 68 L st h = (tR st fun a s => optW (hO h a 7) (fun fs => optW (fs[12]?) (fun v => P 71 L (v :: s) h) wt) wt) := e156_68
theorem g156_78 : exq sa F N S rt cd156 P Q 78 L st h = (ivVW F 153 5 7 st h (fun r s h' => P 81 L (pu r s) h') wt) := e156_78
theorem g156_81 : exq sa F N S rt cd156 P Q 81 L st h = (tI st fun a s => brW (a = 0) (P 123 L s h) (P 84 L s h) wt wt) := e156_81
theorem g156_87 : exq sa F N S rt cd156 P Q 87 L st h = (ivVW F 154 2 7 st h (fun r s h' => P 90 L (pu r s) h') wt) := e156_87
theorem g156_90 : exq sa F N S rt cd156 P Q 90 L st h = (tI st fun a s => brW (a = 0) (P 123 L s h) (P 93 L s h) wt wt) := e156_90
theorem g156_95 : exq sa F N S rt cd156 P Q 95 L st h = (tR st fun a s => optW (hO h a 7) (fun fs => optW (fs[13]?) (fun v => P 98 L (v :: s) h) wt) wt) := e156_95
theorem g156_104 : exq sa F N S rt cd156 P Q 104 L st h = (ivVW F 153 5 7 st h (fun r s h' => P 107 L (pu r s) h') wt) := e156_104
theorem g156_107 : exq sa F N S rt cd156 P Q 107 L st h = (tI st fun a s => brW (a = 0) (P 123 L s h) (P 110 L s h) wt wt) := e156_107
theorem g156_113 : exq sa F N S rt cd156 P Q 113 L st h = (ivVW F 154 2 7 st h (fun r s h' => P 116 L (pu r s) h') wt) := e156_113
theorem g156_116 : exq sa F N S rt cd156 P Q 116 L st h = (tI st fun a s => brW (a = 0) (P 123 L s h) (P 119 L s h) wt wt) := e156_116
end GL
