/-! what each instruction does, held back -/
section GL
variable {sa : aS} {F : aF} {N S : Nat} {rt : Option FieldType} {P : aK} {Q : aQ} {L : aL} {st : List Value} {h : aH}
theorem g52_4 : exq sa F N S rt cd52 P Q 4 L st h = (tR st fun a s => optW (hO h a 3) (fun fs => optW (fs[5]?) (fun v => P 7 L (v :: s) h) wt) wt) := e52_4
theorem g52_7 : exq sa F N S rt cd52 P Q 7 L st h = (tI st fun b s => tI s fun a s => brW (b ≤ a) (P 47 L s h) (P 10 L s h) wt wt) := e52_7
theorem g52_11 : exq sa F N S rt cd52 P Q 11 L st h = (tR st fun a s => optW (hO h a 3) (fun fs => optW (fs[0]?) (fun v => P 14 L (v :: s) h) wt) wt) := e52_11
theorem g52_15 : exq sa F N S rt cd52 P Q 15 L st h = (ivVW F 27 2 2 st h (fun r s h' => P 18 L (pu r s) h') wt) := e52_15
theorem g52_19 : exq sa F N S rt cd52 P Q 19 L st h = (tR st fun a s => optW (hO h a 3) (fun fs => optW (fs[0]?) (fun v => P 22 L (v :: s) h) wt) wt) := e52_19
theorem g52_22 : exq sa F N S rt cd52 P Q 22 L st h = (tR st fun a s => optW (hO h a 2) (fun fs => optW (fs[6]?) (fun v => P 25 L (v :: s) h) wt) wt) := e52_22
theorem g52_26 : exq sa F N S rt cd52 P Q 26 L st h = (tR st fun a s => optW (hO h a 3) (fun fs => optW (fs[4]?) (fun v => P 29 L (v :: s) h) wt) wt) := e52_26
theorem g52_29 : exq sa F N S rt cd52 P Q 29 L st h = (aldW sa st h (fun v s => P 30 L (.int v :: s) h) wt) := e52_29
theorem g52_31 : exq sa F N S rt cd52 P Q 31 L st h = (tR st fun a s => optW (hO h a 3) (fun fs => optW (fs[3]?) (fun v => P 34 L (v :: s) h) wt) wt) := e52_31
theorem g52_35 : exq sa F N S rt cd52 P Q 35 L st h = (aldW sa st h (fun v s => P 36 L (.int v :: s) h) wt) := e52_35
theorem g52_36 : exq sa F N S rt cd52 P Q 36 L st h = (tI st fun b s => tI s fun a s => brW (a = b) (P 41 L s h) (P 39 L s h) wt wt) := e52_36
theorem g53_8 : exq sa F N S rt cd53 P Q 8 L st h = (tI st fun b s => tI s fun a s => brW (b < a) (P 54 L s h) (P 11 L s h) wt wt) := e53_8
theorem g53_12 : exq sa F N S rt cd53 P Q 12 L st h = (tR st fun a s => optW (hO h a 3) (fun fs => optW (fs[0]?) (fun v => P 15 L (v :: s) h) wt) wt) := e53_12
theorem g53_16 : exq sa F N S rt cd53 P Q 16 L st h = (ivVW F 15 2 2 st h (fun r s h' => P 19 L (pu r s) h') wt) := e53_16
theorem g53_20 : exq sa F N S rt cd53 P Q 20 L st h = (tR st fun a s => optW (hO h a 3) (fun fs => optW (fs[0]?) (fun v => P 23 L (v :: s) h) wt) wt) := e53_20
theorem g53_23 : exq sa F N S rt cd53 P Q 23 L st h = (tR st fun a s => optW (hO h a 2) (fun fs => optW (fs[4]?) (fun v => P 26 L (v :: s) h) wt) wt) := e53_23
theorem g53_29 : exq sa F N S rt cd53 P Q 29 L st h = (tI st fun v s => tI s fun i s => tR s fun a s => optW (hI h a) (fun q => ixW i q.1 (fun k => P 30 L s (hS h a (.inl (0, q.1, .inl (upd q.2 k v))))) wt) wt) := e53_29
theorem g53_32 : exq sa F N S rt cd53 P Q 32 L st h = (ivVW F 52 1 3 st h (fun r s h' => P 35 L (pu r s) h') wt) := e53_32
theorem g53_35 : exq sa F N S rt cd53 P Q 35 L st h = (tI st fun a s => brW (a = 0) (P 45 L s h) (P 38 L s h) wt wt) := e53_35
theorem g54_9 : exq sa F N S rt cd54 P Q 9 L st h = (tI st fun b s => tI s fun a s => brW (b < a) (P 55 L s h) (P 12 L s h) wt wt) := e54_9
theorem g54_13 : exq sa F N S rt cd54 P Q 13 L st h = (tR st fun a s => optW (hO h a 3) (fun fs => optW (fs[0]?) (fun v => P 16 L (v :: s) h) wt) wt) := e54_13
theorem g54_17 : exq sa F N S rt cd54 P Q 17 L st h = (ivVW F 15 2 2 st h (fun r s h' => P 20 L (pu r s) h') wt) := e54_17
theorem g54_21 : exq sa F N S rt cd54 P Q 21 L st h = (tR st fun a s => optW (hO h a 3) (fun fs => optW (fs[0]?) (fun v => P 24 L (v :: s) h) wt) wt) := e54_21
theorem g54_24 : exq sa F N S rt cd54 P Q 24 L st h = (tR st fun a s => optW (hO h a 2) (fun fs => optW (fs[5]?) (fun v => P 27 L (v :: s) h) wt) wt) := e54_24
theorem g54_30 : exq sa F N S rt cd54 P Q 30 L st h = (tI st fun v s => tI s fun i s => tR s fun a s => optW (hI h a) (fun q => ixW i q.1 (fun k => P 31 L s (hS h a (.inl (0, q.1, .inl (upd q.2 k v))))) wt) wt) := e54_30
theorem g54_33 : exq sa F N S rt cd54 P Q 33 L st h = (ivVW F 52 1 3 st h (fun r s h' => P 36 L (pu r s) h') wt) := e54_33
theorem g54_36 : exq sa F N S rt cd54 P Q 36 L st h = (tI st fun a s => brW (a = 0) (P 46 L s h) (P 39 L s h) wt wt) := e54_36
theorem g55_8 : exq sa F N S rt cd55 P Q 8 L st h = (tI st fun b s => tI s fun a s => brW (b < a) (P 54 L s h) (P 11 L s h) wt wt) := e55_8
theorem g55_12 : exq sa F N S rt cd55 P Q 12 L st h = (tR st fun a s => optW (hO h a 3) (fun fs => optW (fs[0]?) (fun v => P 15 L (v :: s) h) wt) wt) := e55_12
theorem g55_16 : exq sa F N S rt cd55 P Q 16 L st h = (ivVW F 15 2 2 st h (fun r s h' => P 19 L (pu r s) h') wt) := e55_16
theorem g55_20 : exq sa F N S rt cd55 P Q 20 L st h = (tR st fun a s => optW (hO h a 3) (fun fs => optW (fs[0]?) (fun v => P 23 L (v :: s) h) wt) wt) := e55_20
theorem g55_23 : exq sa F N S rt cd55 P Q 23 L st h = (tR st fun a s => optW (hO h a 2) (fun fs => optW (fs[12]?) (fun v => P 26 L (v :: s) h) wt) wt) := e55_23
theorem g55_29 : exq sa F N S rt cd55 P Q 29 L st h = (tI st fun v s => tI s fun i s => tR s fun a s => optW (hI h a) (fun q => ixW i q.1 (fun k => P 30 L s (hS h a (.inl (0, q.1, .inl (upd q.2 k v))))) wt) wt) := e55_29
theorem g55_32 : exq sa F N S rt cd55 P Q 32 L st h = (ivVW F 52 1 3 st h (fun r s h' => P 35 L (pu r s) h') wt) := e55_32
theorem g55_35 : exq sa F N S rt cd55 P Q 35 L st h = (tI st fun a s => brW (a = 0) (P 45 L s h) (P 38 L s h) wt wt) := e55_35
theorem g56_8 : exq sa F N S rt cd56 P Q 8 L st h = (tR st fun a s => optW (hO h a 2) (fun fs => optW (fs[0]?) (fun v => P 11 L (v :: s) h) wt) wt) := e56_8
theorem g56_11 : exq sa F N S rt cd56 P Q 11 L st h = (tI st fun b s => tI s fun a s => brW (b ≤ a) (P 57 L s h) (P 14 L s h) wt wt) := e56_11
theorem g56_15 : exq sa F N S rt cd56 P Q 15 L st h = (tR st fun a s => optW (hO h a 3) (fun fs => optW (fs[0]?) (fun v => P 18 L (v :: s) h) wt) wt) := e56_15
theorem g56_19 : exq sa F N S rt cd56 P Q 19 L st h = (ivVW F 15 2 2 st h (fun r s h' => P 22 L (pu r s) h') wt) := e56_19
theorem g56_23 : exq sa F N S rt cd56 P Q 23 L st h = (tR st fun a s => optW (hO h a 3) (fun fs => optW (fs[0]?) (fun v => P 26 L (v :: s) h) wt) wt) := e56_23
theorem g56_26 : exq sa F N S rt cd56 P Q 26 L st h = (tR st fun a s => optW (hO h a 2) (fun fs => optW (fs[10]?) (fun v => P 29 L (v :: s) h) wt) wt) := e56_26
theorem g56_32 : exq sa F N S rt cd56 P Q 32 L st h = (tI st fun v s => tI s fun i s => tR s fun a s => optW (hI h a) (fun q => ixW i q.1 (fun k => P 33 L s (hS h a (.inl (0, q.1, .inl (upd q.2 k v))))) wt) wt) := e56_32
theorem g56_35 : exq sa F N S rt cd56 P Q 35 L st h = (ivVW F 52 1 3 st h (fun r s h' => P 38 L (pu r s) h') wt) := e56_35
theorem g56_38 : exq sa F N S rt cd56 P Q 38 L st h = (tI st fun a s => brW (a = 0) (P 48 L s h) (P 41 L s h) wt wt) := e56_38
theorem g57_2 : exq sa F N S rt cd57 P Q 2 L st h = (ivVW F 22 2 2 st h (fun r s h' => P 5 L (pu r s) h') wt) := e57_2
theorem g57_20 : exq sa F N S rt cd57 P Q 20 L st h = (tI st fun b s => tI s fun a s => brW (b ≤ a) (P 87 L s h) (P 23 L s h) wt wt) := e57_20
theorem g57_30 : exq sa F N S rt cd57 P Q 30 L st h = (tI st fun a s => brW (a = 0) (P 33 L s h) (P 81 L s h) wt wt) := e57_30
theorem g57_39 : exq sa F N S rt cd57 P Q 39 L st h = (ivSW F 58 3 st h (fun r s h' => P 42 L (pu r s) h') wt) := e57_39
theorem g57_57 : exq sa F N S rt cd57 P Q 57 L st h = (tI st fun a s => brW (a ≤ 0) (P 77 L s h) (P 60 L s h) wt wt) := e57_57
theorem g57_66 : exq sa F N S rt cd57 P Q 66 L st h = (ivVW F 59 5 3 st h (fun r s h' => P 69 L (pu r s) h') wt) := e57_66
theorem g57_69 : exq sa F N S rt cd57 P Q 69 L st h = (tI st fun a s => brW (a = 0) (P 77 L s h) (P 72 L s h) wt wt) := e57_69
theorem g57_91 : exq sa F N S rt cd57 P Q 91 L st h = (ivSW F 60 2 st h (fun r s h' => P 94 L (pu r s) h') wt) := e57_91
theorem g57_100 : exq sa F N S rt cd57 P Q 100 L st h = (tI st fun a s => brW (0 ≤ a) (P 107 L s h) (P 103 L s h) wt wt) := e57_100
theorem g57_109 : exq sa F N S rt cd57 P Q 109 L st h = (tI st fun a s => brW (a = 0) (P 112 L s h) (P 120 L s h) wt wt) := e57_109
theorem g58_8 : exq sa F N S rt cd58 P Q 8 L st h = (tI st fun b s => tI s fun a s => brW (b ≤ a) (P 50 L s h) (P 11 L s h) wt wt) := e58_8
theorem g58_18 : exq sa F N S rt cd58 P Q 18 L st h = (tI st fun b s => tI s fun a s => brW (a = b) (P 21 L s h) (P 44 L s h) wt wt) := e58_18
theorem g58_29 : exq sa F N S rt cd58 P Q 29 L st h = (tI st fun b s => tI s fun a s => brW (a = b) (P 32 L s h) (P 37 L s h) wt wt) := e58_29
theorem g59_1 : exq sa F N S rt cd59 P Q 1 L st h = (tR st fun a s => optW (hO h a 3) (fun fs => optW (fs[0]?) (fun v => P 4 L (v :: s) h) wt) wt) := e59_1
theorem g59_5 : exq sa F N S rt cd59 P Q 5 L st h = (ivVW F 15 2 2 st h (fun r s h' => P 8 L (pu r s) h') wt) := e59_5
theorem g59_9 : exq sa F N S rt cd59 P Q 9 L st h = (tR st fun a s => optW (hO h a 3) (fun fs => optW (fs[0]?) (fun v => P 12 L (v :: s) h) wt) wt) := e59_9
theorem g59_14 : exq sa F N S rt cd59 P Q 14 L st h = (ivVW F 25 3 2 st h (fun r s h' => P 17 L (pu r s) h') wt) := e59_14
theorem g59_18 : exq sa F N S rt cd59 P Q 18 L st h = (tR st fun a s => optW (hO h a 3) (fun fs => optW (fs[0]?) (fun v => P 21 L (v :: s) h) wt) wt) := e59_18
theorem g59_23 : exq sa F N S rt cd59 P Q 23 L st h = (ivVW F 27 2 2 st h (fun r s h' => P 26 L (pu r s) h') wt) := e59_23
theorem g59_27 : exq sa F N S rt cd59 P Q 27 L st h = (tR st fun a s => optW (hO h a 3) (fun fs => optW (fs[0]?) (fun v => P 30 L (v :: s) h) wt) wt) := e59_27
theorem g59_31 : exq sa F N S rt cd59 P Q 31 L st h = (ivVW F 20 2 2 st h (fun r s h' => P 34 L (pu r s) h') wt) := e59_31
theorem g60_7 : exq sa F N S rt cd60 P Q 7 L st h = (tI st fun b s => tI s fun a s => brW (b ≤ a) (P 32 L s h) (P 10 L s h) wt wt) := e60_7
theorem g60_13 : exq sa F N S rt cd60 P Q 13 L st h = (tI st fun a s => brW (a = 0) (P 32 L s h) (P 16 L s h) wt wt) := e60_13
theorem g61_5 : exq sa F N S rt cd61 P Q 5 L st h = (tR st fun a s => optW (hO h a 3) (fun fs => optW (fs[0]?) (fun v => P 8 L (v :: s) h) wt) wt) := e61_5
theorem g61_9 : exq sa F N S rt cd61 P Q 9 L st h = (ivVW F 15 2 2 st h (fun r s h' => P 12 L (pu r s) h') wt) := e61_9
theorem g61_18 : exq sa F N S rt cd61 P Q 18 L st h = (tI st fun b s => tI s fun a s => brW (b ≤ a) (P 53 L s h) (P 21 L s h) wt wt) := e61_18
theorem g61_36 : exq sa F N S rt cd61 P Q 36 L st h = (ivVW F 62 2 3 st h (fun r s h' => P 39 L (pu r s) h') wt) := e61_36
theorem g61_40 : exq sa F N S rt cd61 P Q 40 L st h = (tR st fun a s => optW (hO h a 3) (fun fs => optW (fs[0]?) (fun v => P 43 L (v :: s) h) wt) wt) := e61_40
theorem g61_44 : exq sa F N S rt cd61 P Q 44 L st h = (ivVW F 27 2 2 st h (fun r s h' => P 47 L (pu r s) h') wt) := e61_44
theorem g61_54 : exq sa F N S rt cd61 P Q 54 L st h = (tR st fun a s => optW (hO h a 3) (fun fs => optW (fs[0]?) (fun v => P 57 L (v :: s) h) wt) wt) := e61_54
theorem g62_1 : exq sa F N S rt cd62 P Q 1 L st h = (tR st fun a s => optW (hO h a 3) (fun fs => optW (fs[0]?) (fun v => P 4 L (v :: s) h) wt) wt) := e62_1
theorem g62_4 : exq sa F N S rt cd62 P Q 4 L st h = (tR st fun a s => optW (hO h a 2) (fun fs => optW (fs[3]?) (fun v => P 7 L (v :: s) h) wt) wt) := e62_4
theorem g62_8 : exq sa F N S rt cd62 P Q 8 L st h = (tI st fun b s => tI s fun a s => brW (b ≤ a) (P 12 L s h) (P 11 L s h) wt wt) := e62_8
theorem g62_14 : exq sa F N S rt cd62 P Q 14 L st h = (tR st fun a s => optW (hO h a 3) (fun fs => optW (fs[0]?) (fun v => P 17 L (v :: s) h) wt) wt) := e62_14
theorem g62_17 : exq sa F N S rt cd62 P Q 17 L st h = (tR st fun a s => optW (hO h a 2) (fun fs => optW (fs[3]?) (fun v => P 20 L (v :: s) h) wt) wt) := e62_17
theorem g62_25 : exq sa F N S rt cd62 P Q 25 L st h = (tR st fun a s => optW (hO h a 3) (fun fs => optW (fs[0]?) (fun v => P 28 L (v :: s) h) wt) wt) := e62_25
theorem g62_28 : exq sa F N S rt cd62 P Q 28 L st h = (tR st fun a s => optW (hO h a 2) (fun fs => optW (fs[7]?) (fun v => P 31 L (v :: s) h) wt) wt) := e62_28
theorem g62_32 : exq sa F N S rt cd62 P Q 32 L st h = (aldW sa st h (fun v s => P 33 L (.int v :: s) h) wt) := e62_32
theorem g62_33 : exq sa F N S rt cd62 P Q 33 L st h = (tI st fun a s => brW (a = 0) (P 36 L s h) (P 57 L s h) wt wt) := e62_33
theorem g62_43 : exq sa F N S rt cd62 P Q 43 L st h = (tI st fun a s => brW (a = 0) (P 46 L s h) (P 57 L s h) wt wt) := e62_43
theorem g62_47 : exq sa F N S rt cd62 P Q 47 L st h = (tR st fun a s => optW (hO h a 3) (fun fs => optW (fs[0]?) (fun v => P 50 L (v :: s) h) wt) wt) := e62_47
theorem g62_51 : exq sa F N S rt cd62 P Q 51 L st h = (ivVW F 23 2 2 st h (fun r s h' => P 54 L (pu r s) h') wt) := e62_51
theorem g62_58 : exq sa F N S rt cd62 P Q 58 L st h = (tR st fun a s => optW (hO h a 3) (fun fs => optW (fs[0]?) (fun v => P 61 L (v :: s) h) wt) wt) := e62_58
theorem g62_61 : exq sa F N S rt cd62 P Q 61 L st h = (tR st fun a s => optW (hO h a 2) (fun fs => optW (fs[7]?) (fun v => P 64 L (v :: s) h) wt) wt) := e62_61
theorem g62_65 : exq sa F N S rt cd62 P Q 65 L st h = (aldW sa st h (fun v s => P 66 L (.int v :: s) h) wt) := e62_65
theorem g62_67 : exq sa F N S rt cd62 P Q 67 L st h = (tI st fun b s => tI s fun a s => brW (a = b) (P 70 L s h) (P 88 L s h) wt wt) := e62_67
theorem g62_77 : exq sa F N S rt cd62 P Q 77 L st h = (tI st fun a s => brW (a = 0) (P 80 L s h) (P 88 L s h) wt wt) := e62_77
theorem g62_81 : exq sa F N S rt cd62 P Q 81 L st h = (tR st fun a s => optW (hO h a 3) (fun fs => optW (fs[0]?) (fun v => P 84 L (v :: s) h) wt) wt) := e62_81
theorem g62_85 : exq sa F N S rt cd62 P Q 85 L st h = (ivVW F 24 2 2 st h (fun r s h' => P 88 L (pu r s) h') wt) := e62_85
theorem g63_12 : exq sa F N S rt cd63 P Q 12 L st h = (pfdW st h 4 0 2 (fun s h' => P 15 L s h') wt) := e63_12
theorem g63_20 : exq sa F N S rt cd63 P Q 20 L st h = (pfdW st h 4 1 2 (fun s h' => P 23 L s h') wt) := e63_20
theorem g64_1 : exq sa F N S rt cd64 P Q 1 L st h = (tR st fun a s => optW (hO h a 4) (fun fs => optW (fs[2]?) (fun v => P 4 L (v :: s) h) wt) wt) := e64_1
theorem g64_6 : exq sa F N S rt cd64 P Q 6 L st h = (tI st fun b s => tI s fun a s => brW (a < b) (P 11 L s h) (P 9 L s h) wt wt) := e64_6
theorem g64_12 : exq sa F N S rt cd64 P Q 12 L st h = (tR st fun a s => optW (hO h a 4) (fun fs => optW (fs[1]?) (fun v => P 15 L (v :: s) h) wt) wt) := e64_12
theorem g64_16 : exq sa F N S rt cd64 P Q 16 L st h = (tR st fun a s => optW (hO h a 4) (fun fs => optW (fs[2]?) (fun v => P 19 L (v :: s) h) wt) wt) := e64_16
theorem g64_20 : exq sa F N S rt cd64 P Q 20 L st h = (tI st fun v s => tI s fun i s => tR s fun a s => optW (hI h a) (fun q => ixW i q.1 (fun k => P 21 L s (hS h a (.inl (0, q.1, .inl (upd q.2 k v))))) wt) wt) := e64_20
theorem g64_23 : exq sa F N S rt cd64 P Q 23 L st h = (tR st fun a s => optW (hO h a 4) (fun fs => optW (fs[2]?) (fun v => P 26 L (v :: s) h) wt) wt) := e64_23
theorem g64_28 : exq sa F N S rt cd64 P Q 28 L st h = (pfdW st h 4 2 0 (fun s h' => P 31 L s h') wt) := e64_28
theorem g65_2 : exq sa F N S rt cd65 P Q 2 L st h = (pfdW st h 4 3 0 (fun s h' => P 5 L s h') wt) := e65_2
theorem g65_6 : exq sa F N S rt cd65 P Q 6 L st h = (tR st fun a s => optW (hO h a 4) (fun fs => optW (fs[0]?) (fun v => P 9 L (v :: s) h) wt) wt) := e65_6
theorem g65_9 : exq sa F N S rt cd65 P Q 9 L st h = (ivVW F 12 1 2 st h (fun r s h' => P 12 L (pu r s) h') wt) := e65_9
theorem g65_13 : exq sa F N S rt cd65 P Q 13 L st h = (ivVW F 66 1 4 st h (fun r s h' => P 16 L (pu r s) h') wt) := e65_13
theorem g65_16 : exq sa F N S rt cd65 P Q 16 L st h = (tI st fun a s => brW (a = 0) (P 37 L s h) (P 19 L s h) wt wt) := e65_16
theorem g65_20 : exq sa F N S rt cd65 P Q 20 L st h = (ivVW F 67 1 4 st h (fun r s h' => P 23 L (pu r s) h') wt) := e65_20
theorem g65_23 : exq sa F N S rt cd65 P Q 23 L st h = (tI st fun a s => brW (a = 0) (P 37 L s h) (P 26 L s h) wt wt) := e65_23
theorem g65_27 : exq sa F N S rt cd65 P Q 27 L st h = (ivVW F 69 1 4 st h (fun r s h' => P 30 L (pu r s) h') wt) := e65_27
theorem g65_30 : exq sa F N S rt cd65 P Q 30 L st h = (tI st fun a s => brW (a = 0) (P 37 L s h) (P 33 L s h) wt wt) := e65_30
theorem g66_3 : exq sa F N S rt cd66 P Q 3 L st h = (ivVW F 71 2 4 st h (fun r s h' => P 6 L (pu r s) h') wt) := e66_3
theorem g66_6 : exq sa F N S rt cd66 P Q 6 L st h = (tI st fun a s => brW (a = 0) (P 19 L s h) (P 9 L s h) wt wt) := e66_6
theorem g66_13 : exq sa F N S rt cd66 P Q 13 L st h = (ivVW F 72 3 4 st h (fun r s h' => P 16 L (pu r s) h') wt) := e66_13
theorem g66_16 : exq sa F N S rt cd66 P Q 16 L st h = (tI st fun a s => brW (a = 0) (P 19 L s h) (P 21 L s h) wt wt) := e66_16
theorem g66_22 : exq sa F N S rt cd66 P Q 22 L st h = (tR st fun a s => optW (hO h a 4) (fun fs => optW (fs[0]?) (fun v => P 25 L (v :: s) h) wt) wt) := e66_22
theorem g66_26 : exq sa F N S rt cd66 P Q 26 L st h = (tR st fun a s => optW (hO h a 4) (fun fs => optW (fs[5]?) (fun v => P 29 L (v :: s) h) wt) wt) := e66_26
theorem g66_29 : exq sa F N S rt cd66 P Q 29 L st h = (pfdW st h 2 0 0 (fun s h' => P 32 L s h') wt) := e66_29
theorem g66_35 : exq sa F N S rt cd66 P Q 35 L st h = (ivVW F 71 2 4 st h (fun r s h' => P 38 L (pu r s) h') wt) := e66_35
theorem g66_38 : exq sa F N S rt cd66 P Q 38 L st h = (tI st fun a s => brW (a = 0) (P 51 L s h) (P 41 L s h) wt wt) := e66_38
theorem g66_45 : exq sa F N S rt cd66 P Q 45 L st h = (ivVW F 72 3 4 st h (fun r s h' => P 48 L (pu r s) h') wt) := e66_45
theorem g66_48 : exq sa F N S rt cd66 P Q 48 L st h = (tI st fun a s => brW (a = 0) (P 51 L s h) (P 53 L s h) wt wt) := e66_48
theorem g66_54 : exq sa F N S rt cd66 P Q 54 L st h = (tR st fun a s => optW (hO h a 4) (fun fs => optW (fs[0]?) (fun v => P 57 L (v :: s) h) wt) wt) := e66_54
theorem g66_58 : exq sa F N S rt cd66 P Q 58 L st h = (tR st fun a s => optW (hO h a 4) (fun fs => optW (fs[5]?) (fun v => P 61 L (v :: s) h) wt) wt) := e66_58
theorem g66_61 : exq sa F N S rt cd66 P Q 61 L st h = (pfdW st h 2 1 0 (fun s h' => P 64 L s h') wt) := e66_61
theorem g66_67 : exq sa F N S rt cd66 P Q 67 L st h = (ivVW F 71 2 4 st h (fun r s h' => P 70 L (pu r s) h') wt) := e66_67
theorem g67_5 : exq sa F N S rt cd67 P Q 5 L st h = (tI st fun b s => tI s fun a s => brW (b < a) (P 38 L s h) (P 8 L s h) wt wt) := e67_5
theorem g67_9 : exq sa F N S rt cd67 P Q 9 L st h = (tI st fun a s => brW (a ≤ 0) (P 23 L s h) (P 12 L s h) wt wt) := e67_9
theorem g67_13 : exq sa F N S rt cd67 P Q 13 L st h = (ivVW F 74 1 4 st h (fun r s h' => P 16 L (pu r s) h') wt) := e67_13
theorem g67_18 : exq sa F N S rt cd67 P Q 18 L st h = (tI st fun b s => tI s fun a s => brW (a = b) (P 23 L s h) (P 21 L s h) wt wt) := e67_18
theorem g67_24 : exq sa F N S rt cd67 P Q 24 L st h = (ivVW F 68 1 4 st h (fun r s h' => P 27 L (pu r s) h') wt) := e67_24
theorem g67_27 : exq sa F N S rt cd67 P Q 27 L st h = (tI st fun a s => brW (a = 0) (P 30 L s h) (P 32 L s h) wt wt) := e67_27
theorem g68_1 : exq sa F N S rt cd68 P Q 1 L st h = (ivVW F 74 1 4 st h (fun r s h' => P 4 L (pu r s) h') wt) := e68_1
theorem g68_6 : exq sa F N S rt cd68 P Q 6 L st h = (tI st fun b s => tI s fun a s => brW (a = b) (P 9 L s h) (P 27 L s h) wt wt) := e68_6
theorem g68_10 : exq sa F N S rt cd68 P Q 10 L st h = (tR st fun a s => optW (hO h a 4) (fun fs => optW (fs[0]?) (fun v => P 13 L (v :: s) h) wt) wt) := e68_10
theorem g68_13 : exq sa F N S rt cd68 P Q 13 L st h = (tR st fun a s => optW (hO h a 2) (fun fs => optW (fs[9]?) (fun v => P 16 L (v :: s) h) wt) wt) := e68_13
theorem g68_18 : exq sa F N S rt cd68 P Q 18 L st h = (tI st fun b s => tI s fun a s => brW (a < b) (P 27 L s h) (P 21 L s h) wt wt) := e68_18
theorem g68_23 : exq sa F N S rt cd68 P Q 23 L st h = (ivVW F 73 2 4 st h (fun r s h' => P 26 L (pu r s) h') wt) := e68_23
theorem g68_30 : exq sa F N S rt cd68 P Q 30 L st h = (ivVW F 71 2 4 st h (fun r s h' => P 33 L (pu r s) h') wt) := e68_30
theorem g68_33 : exq sa F N S rt cd68 P Q 33 L st h = (tI st fun a s => brW (a = 0) (P 53 L s h) (P 36 L s h) wt wt) := e68_33
theorem g68_39 : exq sa F N S rt cd68 P Q 39 L st h = (tR st fun a s => optW (hO h a 4) (fun fs => optW (fs[0]?) (fun v => P 42 L (v :: s) h) wt) wt) := e68_39
theorem g68_42 : exq sa F N S rt cd68 P Q 42 L st h = (tR st fun a s => optW (hO h a 2) (fun fs => optW (fs[0]?) (fun v => P 45 L (v :: s) h) wt) wt) := e68_42
theorem g68_47 : exq sa F N S rt cd68 P Q 47 L st h = (ivVW F 72 3 4 st h (fun r s h' => P 50 L (pu r s) h') wt) := e68_47
theorem g68_50 : exq sa F N S rt cd68 P Q 50 L st h = (tI st fun a s => brW (a = 0) (P 53 L s h) (P 55 L s h) wt wt) := e68_50
theorem g68_56 : exq sa F N S rt cd68 P Q 56 L st h = (tR st fun a s => optW (hO h a 4) (fun fs => optW (fs[5]?) (fun v => P 59 L (v :: s) h) wt) wt) := e68_56
theorem g68_63 : exq sa F N S rt cd68 P Q 63 L st h = (ivVW F 71 2 4 st h (fun r s h' => P 66 L (pu r s) h') wt) := e68_63
theorem g68_66 : exq sa F N S rt cd68 P Q 66 L st h = (tI st fun a s => brW (a = 0) (P 79 L s h) (P 69 L s h) wt wt) := e68_66
theorem g68_73 : exq sa F N S rt cd68 P Q 73 L st h = (ivVW F 72 3 4 st h (fun r s h' => P 76 L (pu r s) h') wt) := e68_73
theorem g68_76 : exq sa F N S rt cd68 P Q 76 L st h = (tI st fun a s => brW (a = 0) (P 79 L s h) (P 81 L s h) wt wt) := e68_76
theorem g68_82 : exq sa F N S rt cd68 P Q 82 L st h = (tR st fun a s => optW (hO h a 4) (fun fs => optW (fs[5]?) (fun v => P 85 L (v :: s) h) wt) wt) := e68_82
theorem g68_89 : exq sa F N S rt cd68 P Q 89 L st h = (ivVW F 71 2 4 st h (fun r s h' => P 92 L (pu r s) h') wt) := e68_89
theorem g68_92 : exq sa F N S rt cd68 P Q 92 L st h = (tI st fun a s => brW (a = 0) (P 104 L s h) (P 95 L s h) wt wt) := e68_92
theorem g68_98 : exq sa F N S rt cd68 P Q 98 L st h = (ivVW F 72 3 4 st h (fun r s h' => P 101 L (pu r s) h') wt) := e68_98
theorem g68_101 : exq sa F N S rt cd68 P Q 101 L st h = (tI st fun a s => brW (a = 0) (P 104 L s h) (P 106 L s h) wt wt) := e68_101
theorem g68_107 : exq sa F N S rt cd68 P Q 107 L st h = (tR st fun a s => optW (hO h a 4) (fun fs => optW (fs[0]?) (fun v => P 110 L (v :: s) h) wt) wt) := e68_107
theorem g68_113 : exq sa F N S rt cd68 P Q 113 L st h = (tR st fun a s => optW (hO h a 4) (fun fs => optW (fs[5]?) (fun v => P 116 L (v :: s) h) wt) wt) := e68_113
theorem g68_116 : exq sa F N S rt cd68 P Q 116 L st h = (ivVW F 13 4 2 st h (fun r s h' => P 119 L (pu r s) h') wt) := e68_116
theorem g68_122 : exq sa F N S rt cd68 P Q 122 L st h = (ivVW F 71 2 4 st h (fun r s h' => P 125 L (pu r s) h') wt) := e68_122
theorem g69_4 : exq sa F N S rt cd69 P Q 4 L st h = (tI st fun b s => tI s fun a s => brW (b < a) (P 39 L s h) (P 7 L s h) wt wt) := e69_4
theorem g69_8 : exq sa F N S rt cd69 P Q 8 L st h = (tI st fun a s => brW (a ≤ 0) (P 24 L s h) (P 11 L s h) wt wt) := e69_8
theorem g69_12 : exq sa F N S rt cd69 P Q 12 L st h = (tR st fun a s => optW (hO h a 4) (fun fs => optW (fs[3]?) (fun v => P 15 L (v :: s) h) wt) wt) := e69_12
theorem g69_16 : exq sa F N S rt cd69 P Q 16 L st h = (tR st fun a s => optW (hO h a 4) (fun fs => optW (fs[2]?) (fun v => P 19 L (v :: s) h) wt) wt) := e69_16
theorem g69_19 : exq sa F N S rt cd69 P Q 19 L st h = (tI st fun b s => tI s fun a s => brW (a < b) (P 24 L s h) (P 22 L s h) wt wt) := e69_19
theorem g69_25 : exq sa F N S rt cd69 P Q 25 L st h = (ivVW F 70 1 4 st h (fun r s h' => P 28 L (pu r s) h') wt) := e69_25
theorem g69_28 : exq sa F N S rt cd69 P Q 28 L st h = (tI st fun a s => brW (a = 0) (P 31 L s h) (P 33 L s h) wt wt) := e69_28
theorem g70_1 : exq sa F N S rt cd70 P Q 1 L st h = (ivVW F 74 1 4 st h (fun r s h' => P 4 L (pu r s) h') wt) := e70_1
theorem g70_4 : exq sa F N S rt cd70 P Q 4 L st h = (ivSW F 77 1 st h (fun r s h' => P 7 L (pu r s) h') wt) := e70_4
theorem g70_9 : exq sa F N S rt cd70 P Q 9 L st h = (tI st fun a s => brW (a = 0) (P 12 L s h) (P 18 L s h) wt wt) := e70_9
theorem g70_14 : exq sa F N S rt cd70 P Q 14 L st h = (ivVW F 73 2 4 st h (fun r s h' => P 17 L (pu r s) h') wt) := e70_14
theorem g70_19 : exq sa F N S rt cd70 P Q 19 L st h = (tR st fun a s => optW (hO h a 4) (fun fs => optW (fs[0]?) (fun v => P 22 L (v :: s) h) wt) wt) := e70_19
theorem g70_22 : exq sa F N S rt cd70 P Q 22 L st h = (tR st fun a s => optW (hO h a 2) (fun fs => optW (fs[3]?) (fun v => P 25 L (v :: s) h) wt) wt) := e70_22
theorem g70_26 : exq sa F N S rt cd70 P Q 26 L st h = (tI st fun b s => tI s fun a s => brW (a < b) (P 35 L s h) (P 29 L s h) wt wt) := e70_26
theorem g70_31 : exq sa F N S rt cd70 P Q 31 L st h = (ivVW F 73 2 4 st h (fun r s h' => P 34 L (pu r s) h') wt) := e70_31
theorem g70_37 : exq sa F N S rt cd70 P Q 37 L st h = (tR st fun a s => optW (hO h a 4) (fun fs => optW (fs[3]?) (fun v => P 40 L (v :: s) h) wt) wt) := e70_37
theorem g70_42 : exq sa F N S rt cd70 P Q 42 L st h = (pfdW st h 4 3 0 (fun s h' => P 45 L s h') wt) := e70_42
theorem g70_49 : exq sa F N S rt cd70 P Q 49 L st h = (ivVW F 72 3 4 st h (fun r s h' => P 52 L (pu r s) h') wt) := e70_49
theorem g70_52 : exq sa F N S rt cd70 P Q 52 L st h = (tI st fun a s => brW (a = 0) (P 55 L s h) (P 57 L s h) wt wt) := e70_52
theorem g70_58 : exq sa F N S rt cd70 P Q 58 L st h = (tR st fun a s => optW (hO h a 4) (fun fs => optW (fs[0]?) (fun v => P 61 L (v :: s) h) wt) wt) := e70_58
theorem g70_63 : exq sa F N S rt cd70 P Q 63 L st h = (tR st fun a s => optW (hO h a 4) (fun fs => optW (fs[5]?) (fun v => P 66 L (v :: s) h) wt) wt) := e70_63
theorem g70_66 : exq sa F N S rt cd70 P Q 66 L st h = (ivVW F 14 3 2 st h (fun r s h' => P 69 L (pu r s) h') wt) := e70_66
theorem g70_72 : exq sa F N S rt cd70 P Q 72 L st h = (ivVW F 71 2 4 st h (fun r s h' => P 75 L (pu r s) h') wt) := e70_72
theorem g71_1 : exq sa F N S rt cd71 P Q 1 L st h = (ivVW F 74 1 4 st h (fun r s h' => P 4 L (pu r s) h') wt) := e71_1
theorem g71_5 : exq sa F N S rt cd71 P Q 5 L st h = (tI st fun b s => tI s fun a s => brW (a = b) (P 14 L s h) (P 8 L s h) wt wt) := e71_5
theorem g71_10 : exq sa F N S rt cd71 P Q 10 L st h = (ivVW F 73 2 4 st h (fun r s h' => P 13 L (pu r s) h') wt) := e71_10
theorem g71_16 : exq sa F N S rt cd71 P Q 16 L st h = (tR st fun a s => optW (hO h a 4) (fun fs => optW (fs[3]?) (fun v => P 19 L (v :: s) h) wt) wt) := e71_16
theorem g71_21 : exq sa F N S rt cd71 P Q 21 L st h = (pfdW st h 4 3 0 (fun s h' => P 24 L s h') wt) := e71_21
theorem g72_4 : exq sa F N S rt cd72 P Q 4 L st h = (pfdW st h 4 5 0 (fun s h' => P 7 L s h') wt) := e72_4
theorem g72_9 : exq sa F N S rt cd72 P Q 9 L st h = (tI st fun b s => tI s fun a s => brW (b ≤ a) (P 59 L s h) (P 12 L s h) wt wt) := e72_9
theorem g72_14 : exq sa F N S rt cd72 P Q 14 L st h = (tR st fun a s => optW (hO h a 4) (fun fs => optW (fs[3]?) (fun v => P 17 L (v :: s) h) wt) wt) := e72_14
theorem g72_19 : exq sa F N S rt cd72 P Q 19 L st h = (ivVW F 75 2 4 st h (fun r s h' => P 22 L (pu r s) h') wt) := e72_19
theorem g72_22 : exq sa F N S rt cd72 P Q 22 L st h = (ivSW F 76 1 st h (fun r s h' => P 25 L (pu r s) h') wt) := e72_22
theorem g72_25 : exq sa F N S rt cd72 P Q 25 L st h = (tI st fun a s => brW (a = 0) (P 59 L s h) (P 28 L s h) wt wt) := e72_25
theorem g72_30 : exq sa F N S rt cd72 P Q 30 L st h = (tR st fun a s => optW (hO h a 4) (fun fs => optW (fs[5]?) (fun v => P 33 L (v :: s) h) wt) wt) := e72_30
theorem g72_38 : exq sa F N S rt cd72 P Q 38 L st h = (tR st fun a s => optW (hO h a 4) (fun fs => optW (fs[3]?) (fun v => P 41 L (v :: s) h) wt) wt) := e72_38
theorem g72_43 : exq sa F N S rt cd72 P Q 43 L st h = (ivVW F 75 2 4 st h (fun r s h' => P 46 L (pu r s) h') wt) := e72_43
theorem g72_50 : exq sa F N S rt cd72 P Q 50 L st h = (pfdW st h 4 5 0 (fun s h' => P 53 L s h') wt) := e72_50
theorem g72_62 : exq sa F N S rt cd72 P Q 62 L st h = (ivSW F 131 3 st h (fun r s h' => P 65 L (pu r s) h') wt) := e72_62
theorem g72_65 : exq sa F N S rt cd72 P Q 65 L st h = (tI st fun a s => brW (a = 0) (P 68 L s h) (P 74 L s h) wt wt) := e72_65
theorem g72_70 : exq sa F N S rt cd72 P Q 70 L st h = (ivVW F 73 2 4 st h (fun r s h' => P 73 L (pu r s) h') wt) := e72_70
theorem g72_75 : exq sa F N S rt cd72 P Q 75 L st h = (tR st fun a s => optW (hO h a 4) (fun fs => optW (fs[5]?) (fun v => P 78 L (v :: s) h) wt) wt) := e72_75
theorem g72_80 : exq sa F N S rt cd72 P Q 80 L st h = (ivSW F 131 3 st h (fun r s h' => P 83 L (pu r s) h') wt) := e72_80
theorem g72_83 : exq sa F N S rt cd72 P Q 83 L st h = (tI st fun a s => brW (a = 0) (P 86 L s h) (P 92 L s h) wt wt) := e72_83
theorem g72_88 : exq sa F N S rt cd72 P Q 88 L st h = (ivVW F 73 2 4 st h (fun r s h' => P 91 L (pu r s) h') wt) := e72_88
theorem g72_94 : exq sa F N S rt cd72 P Q 94 L st h = (tR st fun a s => optW (hO h a 4) (fun fs => optW (fs[3]?) (fun v => P 97 L (v :: s) h) wt) wt) := e72_94
theorem g72_99 : exq sa F N S rt cd72 P Q 99 L st h = (pfdW st h 4 3 0 (fun s h' => P 102 L s h') wt) := e72_99
theorem g73_2 : exq sa F N S rt cd73 P Q 2 L st h = (pfdW st h 4 4 0 (fun s h' => P 5 L s h') wt) := e73_2
theorem g74_2 : exq sa F N S rt cd74 P Q 2 L st h = (tR st fun a s => optW (hO h a 4) (fun fs => optW (fs[3]?) (fun v => P 5 L (v :: s) h) wt) wt) := e74_2
theorem g74_5 : exq sa F N S rt cd74 P Q 5 L st h = (ivVW F 75 2 4 st h (fun r s h' => P 8 L (pu r s) h') wt) := e74_5
theorem g75_3 : exq sa F N S rt cd75 P Q 3 L st h = (tR st fun a s => optW (hO h a 4) (fun fs => optW (fs[2]?) (fun v => P 6 L (v :: s) h) wt) wt) := e75_3
theorem g75_8 : exq sa F N S rt cd75 P Q 8 L st h = (ivSW F 131 3 st h (fun r s h' => P 11 L (pu r s) h') wt) := e75_8
theorem g75_11 : exq sa F N S rt cd75 P Q 11 L st h = (tI st fun a s => brW (a = 0) (P 23 L s h) (P 14 L s h) wt wt) := e75_11
theorem g75_15 : exq sa F N S rt cd75 P Q 15 L st h = (tR st fun a s => optW (hO h a 4) (fun fs => optW (fs[1]?) (fun v => P 18 L (v :: s) h) wt) wt) := e75_15
theorem g75_19 : exq sa F N S rt cd75 P Q 19 L st h = (aldW sa st h (fun v s => P 20 L (.int v :: s) h) wt) := e75_19
theorem g76_5 : exq sa F N S rt cd76 P Q 5 L st h = (ivSW F 131 3 st h (fun r s h' => P 8 L (pu r s) h') wt) := e76_5
theorem g78_13 : exq sa F N S rt cd78 P Q 13 L st h = (pfdW st h 5 0 2 (fun s h' => P 16 L s h') wt) := e78_13
theorem g78_21 : exq sa F N S rt cd78 P Q 21 L st h = (pfdW st h 5 1 2 (fun s h' => P 24 L s h') wt) := e78_21
theorem g78_32 : exq sa F N S rt cd78 P Q 32 L st h = (tI st fun v s => tI s fun i s => tR s fun a s => optW (hI h a) (fun q => ixW i q.1 (fun k => P 33 L s (hS h a (.inl (0, q.1, .inl (upd q.2 k v))))) wt) wt) := e78_32
theorem g78_36 : exq sa F N S rt cd78 P Q 36 L st h = (tI st fun v s => tI s fun i s => tR s fun a s => optW (hI h a) (fun q => ixW i q.1 (fun k => P 37 L s (hS h a (.inl (0, q.1, .inl (upd q.2 k v))))) wt) wt) := e78_36
theorem g78_40 : exq sa F N S rt cd78 P Q 40 L st h = (tI st fun v s => tI s fun i s => tR s fun a s => optW (hI h a) (fun q => ixW i q.1 (fun k => P 41 L s (hS h a (.inl (0, q.1, .inl (upd q.2 k v))))) wt) wt) := e78_40
theorem g78_44 : exq sa F N S rt cd78 P Q 44 L st h = (tI st fun v s => tI s fun i s => tR s fun a s => optW (hI h a) (fun q => ixW i q.1 (fun k => P 45 L s (hS h a (.inl (0, q.1, .inl (upd q.2 k v))))) wt) wt) := e78_44
theorem g78_48 : exq sa F N S rt cd78 P Q 48 L st h = (tI st fun v s => tI s fun i s => tR s fun a s => optW (hI h a) (fun q => ixW i q.1 (fun k => P 49 L s (hS h a (.inl (0, q.1, .inl (upd q.2 k v))))) wt) wt) := e78_48
theorem g78_52 : exq sa F N S rt cd78 P Q 52 L st h = (tI st fun v s => tI s fun i s => tR s fun a s => optW (hI h a) (fun q => ixW i q.1 (fun k => P 53 L s (hS h a (.inl (0, q.1, .inl (upd q.2 k v))))) wt) wt) := e78_52
theorem g78_57 : exq sa F N S rt cd78 P Q 57 L st h = (tI st fun v s => tI s fun i s => tR s fun a s => optW (hI h a) (fun q => ixW i q.1 (fun k => P 58 L s (hS h a (.inl (0, q.1, .inl (upd q.2 k v))))) wt) wt) := e78_57
theorem g78_62 : exq sa F N S rt cd78 P Q 62 L st h = (tI st fun v s => tI s fun i s => tR s fun a s => optW (hI h a) (fun q => ixW i q.1 (fun k => P 63 L s (hS h a (.inl (0, q.1, .inl (upd q.2 k v))))) wt) wt) := e78_62
theorem g78_63 : exq sa F N S rt cd78 P Q 63 L st h = (pfdW st h 5 2 2 (fun s h' => P 66 L s h') wt) := e78_63
theorem g79_4 : exq sa F N S rt cd79 P Q 4 L st h = (ivSW F 131 3 st h (fun r s h' => P 7 L (pu r s) h') wt) := e79_4
theorem g80_1 : exq sa F N S rt cd80 P Q 1 L st h = (tR st fun a s => optW (hO h a 5) (fun fs => optW (fs[2]?) (fun v => P 4 L (v :: s) h) wt) wt) := e80_1
theorem g80_5 : exq sa F N S rt cd80 P Q 5 L st h = (aldW sa st h (fun v s => P 6 L (.int v :: s) h) wt) := e80_5
theorem g80_7 : exq sa F N S rt cd80 P Q 7 L st h = (tI st fun b s => tI s fun a s => brW (a = b) (P 10 L s h) (P 14 L s h) wt wt) := e80_7
theorem g81_7 : exq sa F N S rt cd81 P Q 7 L st h = (tI st fun b s => tI s fun a s => brW (b ≤ a) (P 32 L s h) (P 10 L s h) wt wt) := e81_7
theorem g81_13 : exq sa F N S rt cd81 P Q 13 L st h = (ivVW F 80 2 5 st h (fun r s h' => P 16 L (pu r s) h') wt) := e81_13
theorem g81_16 : exq sa F N S rt cd81 P Q 16 L st h = (tI st fun a s => brW (a = 0) (P 23 L s h) (P 19 L s h) wt wt) := e81_16
theorem g82_1 : exq sa F N S rt cd82 P Q 1 L st h = (tR st fun a s => optW (hO h a 5) (fun fs => optW (fs[1]?) (fun v => P 4 L (v :: s) h) wt) wt) := e82_1
theorem g82_6 : exq sa F N S rt cd82 P Q 6 L st h = (tI st fun v s => tI s fun i s => tR s fun a s => optW (hI h a) (fun q => ixW i q.1 (fun k => P 7 L s (hS h a (.inl (0, q.1, .inl (upd q.2 k v))))) wt) wt) := e82_6
theorem g82_8 : exq sa F N S rt cd82 P Q 8 L st h = (tR st fun a s => optW (hO h a 5) (fun fs => optW (fs[2]?) (fun v => P 11 L (v :: s) h) wt) wt) := e82_8
theorem g82_13 : exq sa F N S rt cd82 P Q 13 L st h = (tI st fun v s => tI s fun i s => tR s fun a s => optW (hI h a) (fun q => ixW i q.1 (fun k => P 14 L s (hS h a (.inl (0, q.1, .inl (upd q.2 k v))))) wt) wt) := e82_13
theorem g82_20 : exq sa F N S rt cd82 P Q 20 L st h = (tI st fun b s => tI s fun a s => brW (b ≤ a) (P 39 L s h) (P 23 L s h) wt wt) := e82_20
theorem g82_24 : exq sa F N S rt cd82 P Q 24 L st h = (tR st fun a s => optW (hO h a 5) (fun fs => optW (fs[0]?) (fun v => P 27 L (v :: s) h) wt) wt) := e82_24
theorem g82_28 : exq sa F N S rt cd82 P Q 28 L st h = (tI st fun i s => tR s fun a s => optW (hR h a) (fun q => ixW i q.2.1 (fun k => optW (q.2.2 k) (fun v => P 29 L (.ref v :: s) h) wt) wt) wt) := e82_28
theorem g82_32 : exq sa F N S rt cd82 P Q 32 L st h = (tI st fun v s => tI s fun i s => tR s fun a s => optW (hI h a) (fun q => ixW i q.1 (fun k => P 33 L s (hS h a (.inl (0, q.1, .inl (upd q.2 k v))))) wt) wt) := e82_32
theorem g83_1 : exq sa F N S rt cd83 P Q 1 L st h = (tR st fun a s => optW (hO h a 5) (fun fs => optW (fs[2]?) (fun v => P 4 L (v :: s) h) wt) wt) := e83_1
theorem g83_5 : exq sa F N S rt cd83 P Q 5 L st h = (aldW sa st h (fun v s => P 6 L (.int v :: s) h) wt) := e83_5
theorem g83_8 : exq sa F N S rt cd83 P Q 8 L st h = (tR st fun a s => optW (hO h a 5) (fun fs => optW (fs[2]?) (fun v => P 11 L (v :: s) h) wt) wt) := e83_8
theorem g83_13 : exq sa F N S rt cd83 P Q 13 L st h = (tI st fun v s => tI s fun i s => tR s fun a s => optW (hI h a) (fun q => ixW i q.1 (fun k => P 14 L s (hS h a (.inl (0, q.1, .inl (upd q.2 k v))))) wt) wt) := e83_13
theorem g84_1 : exq sa F N S rt cd84 P Q 1 L st h = (tR st fun a s => optW (hO h a 5) (fun fs => optW (fs[0]?) (fun v => P 4 L (v :: s) h) wt) wt) := e84_1
theorem g84_5 : exq sa F N S rt cd84 P Q 5 L st h = (tI st fun i s => tR s fun a s => optW (hR h a) (fun q => ixW i q.2.1 (fun k => optW (q.2.2 k) (fun v => P 6 L (.ref v :: s) h) wt) wt) wt) := e84_5
theorem g84_8 : exq sa F N S rt cd84 P Q 8 L st h = (tR st fun a s => optW (hO h a 5) (fun fs => optW (fs[1]?) (fun v => P 11 L (v :: s) h) wt) wt) := e84_8
theorem g84_12 : exq sa F N S rt cd84 P Q 12 L st h = (aldW sa st h (fun v s => P 13 L (.int v :: s) h) wt) := e84_12
theorem g84_14 : exq sa F N S rt cd84 P Q 14 L st h = (ivSW F 89 2 st h (fun r s h' => P 17 L (pu r s) h') wt) := e84_14
theorem g84_17 : exq sa F N S rt cd84 P Q 17 L st h = (tI st fun v s => tI s fun i s => tR s fun a s => optW (hI h a) (fun q => ixW i q.1 (fun k => P 18 L s (hS h a (.inl (0, q.1, .inl (upd q.2 k v))))) wt) wt) := e84_17
theorem g84_19 : exq sa F N S rt cd84 P Q 19 L st h = (tR st fun a s => optW (hO h a 5) (fun fs => optW (fs[0]?) (fun v => P 22 L (v :: s) h) wt) wt) := e84_19
theorem g84_23 : exq sa F N S rt cd84 P Q 23 L st h = (tI st fun i s => tR s fun a s => optW (hR h a) (fun q => ixW i q.2.1 (fun k => optW (q.2.2 k) (fun v => P 24 L (.ref v :: s) h) wt) wt) wt) := e84_23
theorem g84_25 : exq sa F N S rt cd84 P Q 25 L st h = (aldW sa st h (fun v s => P 26 L (.int v :: s) h) wt) := e84_25
theorem g85_1 : exq sa F N S rt cd85 P Q 1 L st h = (tR st fun a s => optW (hO h a 5) (fun fs => optW (fs[0]?) (fun v => P 4 L (v :: s) h) wt) wt) := e85_1
theorem g85_5 : exq sa F N S rt cd85 P Q 5 L st h = (tI st fun i s => tR s fun a s => optW (hR h a) (fun q => ixW i q.2.1 (fun k => optW (q.2.2 k) (fun v => P 6 L (.ref v :: s) h) wt) wt) wt) := e85_5
theorem g85_8 : exq sa F N S rt cd85 P Q 8 L st h = (tR st fun a s => optW (hO h a 5) (fun fs => optW (fs[0]?) (fun v => P 11 L (v :: s) h) wt) wt) := e85_8
theorem g85_12 : exq sa F N S rt cd85 P Q 12 L st h = (tI st fun i s => tR s fun a s => optW (hR h a) (fun q => ixW i q.2.1 (fun k => optW (q.2.2 k) (fun v => P 13 L (.ref v :: s) h) wt) wt) wt) := e85_12
theorem g86_2 : exq sa F N S rt cd86 P Q 2 L st h = (ivVW F 80 2 5 st h (fun r s h' => P 5 L (pu r s) h') wt) := e86_2
theorem g86_5 : exq sa F N S rt cd86 P Q 5 L st h = (tI st fun a s => brW (a = 0) (P 10 L s h) (P 8 L s h) wt wt) := e86_5
theorem g86_14 : exq sa F N S rt cd86 P Q 14 L st h = (ivVW F 88 4 5 st h (fun r s h' => P 17 L (pu r s) h') wt) := e86_14
theorem g86_17 : exq sa F N S rt cd86 P Q 17 L st h = (tI st fun a s => brW (a = 0) (P 24 L s h) (P 20 L s h) wt wt) := e86_17
theorem g87_2 : exq sa F N S rt cd87 P Q 2 L st h = (ivVW F 80 2 5 st h (fun r s h' => P 5 L (pu r s) h') wt) := e87_2
theorem g87_5 : exq sa F N S rt cd87 P Q 5 L st h = (tI st fun a s => brW (a = 0) (P 8 L s h) (P 16 L s h) wt wt) := e87_5
theorem g87_10 : exq sa F N S rt cd87 P Q 10 L st h = (ivVW F 80 2 5 st h (fun r s h' => P 13 L (pu r s) h') wt) := e87_10
theorem g87_13 : exq sa F N S rt cd87 P Q 13 L st h = (tI st fun a s => brW (a = 0) (P 18 L s h) (P 16 L s h) wt wt) := e87_13
theorem g87_19 : exq sa F N S rt cd87 P Q 19 L st h = (tR st fun a s => optW (hO h a 5) (fun fs => optW (fs[1]?) (fun v => P 22 L (v :: s) h) wt) wt) := e87_19
theorem g87_23 : exq sa F N S rt cd87 P Q 23 L st h = (aldW sa st h (fun v s => P 24 L (.int v :: s) h) wt) := e87_23
theorem g87_25 : exq sa F N S rt cd87 P Q 25 L st h = (tR st fun a s => optW (hO h a 5) (fun fs => optW (fs[1]?) (fun v => P 28 L (v :: s) h) wt) wt) := e87_25
theorem g87_29 : exq sa F N S rt cd87 P Q 29 L st h = (aldW sa st h (fun v s => P 30 L (.int v :: s) h) wt) := e87_29
theorem g87_30 : exq sa F N S rt cd87 P Q 30 L st h = (tI st fun b s => tI s fun a s => brW (a = b) (P 35 L s h) (P 33 L s h) wt wt) := e87_30
theorem g87_40 : exq sa F N S rt cd87 P Q 40 L st h = (ivVW F 88 4 5 st h (fun r s h' => P 43 L (pu r s) h') wt) := e87_40
theorem g87_43 : exq sa F N S rt cd87 P Q 43 L st h = (tI st fun a s => brW (a = 0) (P 62 L s h) (P 46 L s h) wt wt) := e87_43
theorem g87_52 : exq sa F N S rt cd87 P Q 52 L st h = (ivVW F 88 4 5 st h (fun r s h' => P 55 L (pu r s) h') wt) := e87_52
theorem g87_55 : exq sa F N S rt cd87 P Q 55 L st h = (tI st fun a s => brW (a = 0) (P 62 L s h) (P 58 L s h) wt wt) := e87_55
theorem g88_1 : exq sa F N S rt cd88 P Q 1 L st h = (tI st fun a s => brW (a < 0) (P 24 L s h) (P 4 L s h) wt wt) := e88_1
theorem g88_5 : exq sa F N S rt cd88 P Q 5 L st h = (tI st fun a s => brW (a < 0) (P 24 L s h) (P 8 L s h) wt wt) := e88_5
theorem g88_10 : exq sa F N S rt cd88 P Q 10 L st h = (tR st fun a s => optW (hO h a 5) (fun fs => optW (fs[2]?) (fun v => P 13 L (v :: s) h) wt) wt) := e88_10
theorem g88_14 : exq sa F N S rt cd88 P Q 14 L st h = (aldW sa st h (fun v s => P 15 L (.int v :: s) h) wt) := e88_14
theorem g88_17 : exq sa F N S rt cd88 P Q 17 L st h = (tI st fun b s => tI s fun a s => brW (b < a) (P 24 L s h) (P 20 L s h) wt wt) := e88_17
theorem g89_1 : exq sa F N S rt cd89 P Q 1 L st h = (tI st fun a s => brW (a = 0) (P 4 L s h) (P 7 L s h) wt wt) := e89_1
theorem g89_9 : exq sa F N S rt cd89 P Q 9 L st h = (tI st fun b s => tI s fun a s => brW (a = b) (P 12 L s h) (P 17 L s h) wt wt) := e89_9
theorem g90_12 : exq sa F N S rt cd90 P Q 12 L st h = (pfdW st h 6 0 2 (fun s h' => P 15 L s h') wt) := e90_12
theorem g90_23 : exq sa F N S rt cd90 P Q 23 L st h = (pfdW st h 6 1 2 (fun s h' => P 26 L s h') wt) := e90_23
theorem g90_34 : exq sa F N S rt cd90 P Q 34 L st h = (pfdW st h 6 2 2 (fun s h' => P 37 L s h') wt) := e90_34
theorem g90_45 : exq sa F N S rt cd90 P Q 45 L st h = (pfdW st h 6 3 2 (fun s h' => P 48 L s h') wt) := e90_45
theorem g90_56 : exq sa F N S rt cd90 P Q 56 L st h = (pfdW st h 6 4 2 (fun s h' => P 59 L s h') wt) := e90_56
theorem g90_84 : exq sa F N S rt cd90 P Q 84 L st h = (pfdW st h 6 5 2 (fun s h' => P 87 L s h') wt) := e90_84
theorem g90_95 : exq sa F N S rt cd90 P Q 95 L st h = (pfdW st h 6 6 2 (fun s h' => P 98 L s h') wt) := e90_95
theorem g91_1 : exq sa F N S rt cd91 P Q 1 L st h = (ivSW F 79 1 st h (fun r s h' => P 4 L (pu r s) h') wt) := e91_1
theorem g91_4 : exq sa F N S rt cd91 P Q 4 L st h = (tI st fun a s => brW (a = 0) (P 22 L s h) (P 7 L s h) wt wt) := e91_4
theorem g91_10 : exq sa F N S rt cd91 P Q 10 L st h = (ivSW F 131 3 st h (fun r s h' => P 13 L (pu r s) h') wt) := e91_10
theorem g91_13 : exq sa F N S rt cd91 P Q 13 L st h = (tI st fun a s => brW (a = 0) (P 22 L s h) (P 16 L s h) wt wt) := e91_13
theorem g91_19 : exq sa F N S rt cd91 P Q 19 L st h = (tI st fun b s => tI s fun a s => brW (a ≤ b) (P 25 L s h) (P 22 L s h) wt wt) := e91_19
theorem g91_26 : exq sa F N S rt cd91 P Q 26 L st h = (tI st fun a s => brW (0 ≤ a) (P 35 L s h) (P 29 L s h) wt wt) := e91_26
theorem g91_31 : exq sa F N S rt cd91 P Q 31 L st h = (ivVW F 129 2 6 st h (fun r s h' => P 34 L (pu r s) h') wt) := e91_31
theorem g91_36 : exq sa F N S rt cd91 P Q 36 L st h = (tR st fun a s => optW (hO h a 6) (fun fs => optW (fs[0]?) (fun v => P 39 L (v :: s) h) wt) wt) := e91_36
theorem g91_42 : exq sa F N S rt cd91 P Q 42 L st h = (ivVW F 82 4 5 st h (fun r s h' => P 45 L (pu r s) h') wt) := e91_42
theorem g91_47 : exq sa F N S rt cd91 P Q 47 L st h = (ivVW F 130 2 6 st h (fun r s h' => P 50 L (pu r s) h') wt) := e91_47
theorem g92_1 : exq sa F N S rt cd92 P Q 1 L st h = (ivSW F 79 1 st h (fun r s h' => P 4 L (pu r s) h') wt) := e92_1
theorem g92_4 : exq sa F N S rt cd92 P Q 4 L st h = (tI st fun a s => brW (a = 0) (P 7 L s h) (P 10 L s h) wt wt) := e92_4
theorem g92_11 : exq sa F N S rt cd92 P Q 11 L st h = (tR st fun a s => optW (hO h a 6) (fun fs => optW (fs[0]?) (fun v => P 14 L (v :: s) h) wt) wt) := e92_11
theorem g92_17 : exq sa F N S rt cd92 P Q 17 L st h = (ivVW F 86 4 5 st h (fun r s h' => P 20 L (pu r s) h') wt) := e92_17
theorem g92_24 : exq sa F N S rt cd92 P Q 24 L st h = (tI st fun a s => brW (a = 0) (P 34 L s h) (P 27 L s h) wt wt) := e92_24
theorem g92_30 : exq sa F N S rt cd92 P Q 30 L st h = (ivVW F 129 2 6 st h (fun r s h' => P 33 L (pu r s) h') wt) := e92_30
theorem g92_36 : exq sa F N S rt cd92 P Q 36 L st h = (tR st fun a s => optW (hO h a 6) (fun fs => optW (fs[0]?) (fun v => P 39 L (v :: s) h) wt) wt) := e92_36
theorem g92_42 : exq sa F N S rt cd92 P Q 42 L st h = (ivVW F 84 4 5 st h (fun r s h' => P 45 L (pu r s) h') wt) := e92_42
theorem g92_45 : exq sa F N S rt cd92 P Q 45 L st h = (ivVW F 130 2 6 st h (fun r s h' => P 48 L (pu r s) h') wt) := e92_45
theorem g93_1 : exq sa F N S rt cd93 P Q 1 L st h = (ivSW F 79 1 st h (fun r s h' => P 4 L (pu r s) h') wt) := e93_1
theorem g93_4 : exq sa F N S rt cd93 P Q 4 L st h = (tI st fun a s => brW (a = 0) (P 14 L s h) (P 7 L s h) wt wt) := e93_4
theorem g93_8 : exq sa F N S rt cd93 P Q 8 L st h = (ivSW F 79 1 st h (fun r s h' => P 11 L (pu r s) h') wt) := e93_8
theorem g93_11 : exq sa F N S rt cd93 P Q 11 L st h = (tI st fun a s => brW (a = 0) (P 14 L s h) (P 17 L s h) wt wt) := e93_11
theorem g93_18 : exq sa F N S rt cd93 P Q 18 L st h = (tR st fun a s => optW (hO h a 6) (fun fs => optW (fs[0]?) (fun v => P 21 L (v :: s) h) wt) wt) := e93_18
theorem g93_28 : exq sa F N S rt cd93 P Q 28 L st h = (ivVW F 87 6 5 st h (fun r s h' => P 31 L (pu r s) h') wt) := e93_28
theorem g93_35 : exq sa F N S rt cd93 P Q 35 L st h = (tI st fun a s => brW (a = 0) (P 45 L s h) (P 38 L s h) wt wt) := e93_35
theorem g93_41 : exq sa F N S rt cd93 P Q 41 L st h = (ivVW F 129 2 6 st h (fun r s h' => P 44 L (pu r s) h') wt) := e93_41
theorem g93_46 : exq sa F N S rt cd93 P Q 46 L st h = (tR st fun a s => optW (hO h a 6) (fun fs => optW (fs[0]?) (fun v => P 49 L (v :: s) h) wt) wt) := e93_46
theorem g93_56 : exq sa F N S rt cd93 P Q 56 L st h = (ivVW F 85 6 5 st h (fun r s h' => P 59 L (pu r s) h') wt) := e93_56
theorem g93_62 : exq sa F N S rt cd93 P Q 62 L st h = (ivVW F 130 2 6 st h (fun r s h' => P 65 L (pu r s) h') wt) := e93_62
theorem g94_1 : exq sa F N S rt cd94 P Q 1 L st h = (ivSW F 79 1 st h (fun r s h' => P 4 L (pu r s) h') wt) := e94_1
theorem g94_4 : exq sa F N S rt cd94 P Q 4 L st h = (tI st fun a s => brW (a = 0) (P 7 L s h) (P 10 L s h) wt wt) := e94_4
theorem g94_11 : exq sa F N S rt cd94 P Q 11 L st h = (tR st fun a s => optW (hO h a 6) (fun fs => optW (fs[0]?) (fun v => P 14 L (v :: s) h) wt) wt) := e94_11
theorem g94_15 : exq sa F N S rt cd94 P Q 15 L st h = (ivVW F 80 2 5 st h (fun r s h' => P 18 L (pu r s) h') wt) := e94_15
theorem g94_18 : exq sa F N S rt cd94 P Q 18 L st h = (tI st fun a s => brW (a = 0) (P 27 L s h) (P 21 L s h) wt wt) := e94_18
theorem g94_23 : exq sa F N S rt cd94 P Q 23 L st h = (ivVW F 129 2 6 st h (fun r s h' => P 26 L (pu r s) h') wt) := e94_23
theorem g94_29 : exq sa F N S rt cd94 P Q 29 L st h = (tR st fun a s => optW (hO h a 6) (fun fs => optW (fs[0]?) (fun v => P 32 L (v :: s) h) wt) wt) := e94_29
theorem g94_33 : exq sa F N S rt cd94 P Q 33 L st h = (ivVW F 83 2 5 st h (fun r s h' => P 36 L (pu r s) h') wt) := e94_33
theorem g94_36 : exq sa F N S rt cd94 P Q 36 L st h = (ivVW F 130 2 6 st h (fun r s h' => P 39 L (pu r s) h') wt) := e94_36
theorem g95_5 : exq sa F N S rt cd95 P Q 5 L st h = (ivSW F 131 3 st h (fun r s h' => P 8 L (pu r s) h') wt) := e95_5
theorem g95_8 : exq sa F N S rt cd95 P Q 8 L st h = (tI st fun a s => brW (a = 0) (P 11 L s h) (P 14 L s h) wt wt) := e95_8
theorem g95_15 : exq sa F N S rt cd95 P Q 15 L st h = (tR st fun a s => optW (hO h a 6) (fun fs => optW (fs[1]?) (fun v => P 18 L (v :: s) h) wt) wt) := e95_15
theorem g95_19 : exq sa F N S rt cd95 P Q 19 L st h = (ivVW F 64 2 4 st h (fun r s h' => P 22 L (pu r s) h') wt) := e95_19
theorem g95_22 : exq sa F N S rt cd95 P Q 22 L st h = (tI st fun a s => brW (a = 0) (P 35 L s h) (P 25 L s h) wt wt) := e95_22
theorem g95_26 : exq sa F N S rt cd95 P Q 26 L st h = (tR st fun a s => optW (hO h a 6) (fun fs => optW (fs[1]?) (fun v => P 29 L (v :: s) h) wt) wt) := e95_26
theorem g95_29 : exq sa F N S rt cd95 P Q 29 L st h = (tR st fun a s => optW (hO h a 4) (fun fs => optW (fs[2]?) (fun v => P 32 L (v :: s) h) wt) wt) := e95_29
theorem g96_1 : exq sa F N S rt cd96 P Q 1 L st h = (tR st fun a s => optW (hO h a 6) (fun fs => optW (fs[1]?) (fun v => P 4 L (v :: s) h) wt) wt) := e96_1
theorem g96_4 : exq sa F N S rt cd96 P Q 4 L st h = (ivVW F 65 1 4 st h (fun r s h' => P 7 L (pu r s) h') wt) := e96_4
theorem g96_9 : exq sa F N S rt cd96 P Q 9 L st h = (tR st fun a s => optW (hO h a 6) (fun fs => optW (fs[1]?) (fun v => P 12 L (v :: s) h) wt) wt) := e96_9
theorem g96_13 : exq sa F N S rt cd96 P Q 13 L st h = (pfdW st h 4 2 0 (fun s h' => P 16 L s h') wt) := e96_13
theorem g96_17 : exq sa F N S rt cd96 P Q 17 L st h = (tI st fun a s => brW (a = 0) (P 20 L s h) (P 42 L s h) wt wt) := e96_17
theorem g96_22 : exq sa F N S rt cd96 P Q 22 L st h = (tR st fun a s => optW (hO h a 6) (fun fs => optW (fs[1]?) (fun v => P 25 L (v :: s) h) wt) wt) := e96_22
theorem g96_25 : exq sa F N S rt cd96 P Q 25 L st h = (tR st fun a s => optW (hO h a 4) (fun fs => optW (fs[4]?) (fun v => P 28 L (v :: s) h) wt) wt) := e96_25
theorem g96_28 : exq sa F N S rt cd96 P Q 28 L st h = (pfdW st h 6 7 0 (fun s h' => P 31 L s h') wt) := e96_28
theorem g96_34 : exq sa F N S rt cd96 P Q 34 L st h = (tR st fun a s => optW (hO h a 6) (fun fs => optW (fs[1]?) (fun v => P 37 L (v :: s) h) wt) wt) := e96_34
theorem g96_37 : exq sa F N S rt cd96 P Q 37 L st h = (tR st fun a s => optW (hO h a 4) (fun fs => optW (fs[3]?) (fun v => P 40 L (v :: s) h) wt) wt) := e96_37
theorem g96_43 : exq sa F N S rt cd96 P Q 43 L st h = (tR st fun a s => optW (hO h a 6) (fun fs => optW (fs[2]?) (fun v => P 46 L (v :: s) h) wt) wt) := e96_43
theorem g96_47 : exq sa F N S rt cd96 P Q 47 L st h = (tR st fun a s => optW (hO h a 6) (fun fs => optW (fs[1]?) (fun v => P 50 L (v :: s) h) wt) wt) := e96_47
theorem g96_50 : exq sa F N S rt cd96 P Q 50 L st h = (tR st fun a s => optW (hO h a 4) (fun fs => optW (fs[0]?) (fun v => P 53 L (v :: s) h) wt) wt) := e96_50
theorem g96_53 : exq sa F N S rt cd96 P Q 53 L st h = (ivVW F 15 2 2 st h (fun r s h' => P 56 L (pu r s) h') wt) := e96_53
theorem g96_57 : exq sa F N S rt cd96 P Q 57 L st h = (tR st fun a s => optW (hO h a 6) (fun fs => optW (fs[3]?) (fun v => P 60 L (v :: s) h) wt) wt) := e96_57
theorem g96_60 : exq sa F N S rt cd96 P Q 60 L st h = (ivVW F 1 1 0 st h (fun r s h' => P 63 L (pu r s) h') wt) := e96_60
theorem g96_64 : exq sa F N S rt cd96 P Q 64 L st h = (tR st fun a s => optW (hO h a 6) (fun fs => optW (fs[2]?) (fun v => P 67 L (v :: s) h) wt) wt) := e96_64
theorem g96_67 : exq sa F N S rt cd96 P Q 67 L st h = (tR st fun a s => optW (hO h a 2) (fun fs => optW (fs[3]?) (fun v => P 70 L (v :: s) h) wt) wt) := e96_67
theorem g97_1 : exq sa F N S rt cd97 P Q 1 L st h = (tR st fun a s => optW (hO h a 6) (fun fs => optW (fs[7]?) (fun v => P 4 L (v :: s) h) wt) wt) := e97_1
theorem g98_1 : exq sa F N S rt cd98 P Q 1 L st h = (tR st fun a s => optW (hO h a 6) (fun fs => optW (fs[3]?) (fun v => P 4 L (v :: s) h) wt) wt) := e98_1
theorem g98_4 : exq sa F N S rt cd98 P Q 4 L st h = (tR st fun a s => optW (hO h a 0) (fun fs => optW (fs[2]?) (fun v => P 7 L (v :: s) h) wt) wt) := e98_4
theorem g98_8 : exq sa F N S rt cd98 P Q 8 L st h = (tI st fun b s => tI s fun a s => brW (b ≤ a) (P 14 L s h) (P 11 L s h) wt wt) := e98_8
theorem g98_15 : exq sa F N S rt cd98 P Q 15 L st h = (tR st fun a s => optW (hO h a 6) (fun fs => optW (fs[3]?) (fun v => P 18 L (v :: s) h) wt) wt) := e98_15
theorem g98_19 : exq sa F N S rt cd98 P Q 19 L st h = (tR st fun a s => optW (hO h a 6) (fun fs => optW (fs[2]?) (fun v => P 22 L (v :: s) h) wt) wt) := e98_19
theorem g98_22 : exq sa F N S rt cd98 P Q 22 L st h = (ivVW F 3 2 0 st h (fun r s h' => P 25 L (pu r s) h') wt) := e98_22
theorem g98_26 : exq sa F N S rt cd98 P Q 26 L st h = (tR st fun a s => optW (hO h a 6) (fun fs => optW (fs[3]?) (fun v => P 29 L (v :: s) h) wt) wt) := e98_26
theorem g98_29 : exq sa F N S rt cd98 P Q 29 L st h = (tR st fun a s => optW (hO h a 0) (fun fs => optW (fs[2]?) (fun v => P 32 L (v :: s) h) wt) wt) := e98_29
theorem g99_1 : exq sa F N S rt cd99 P Q 1 L st h = (tR st fun a s => optW (hO h a 6) (fun fs => optW (fs[2]?) (fun v => P 4 L (v :: s) h) wt) wt) := e99_1
theorem g99_4 : exq sa F N S rt cd99 P Q 4 L st h = (ivVW F 16 1 2 st h (fun r s h' => P 7 L (pu r s) h') wt) := e99_4
theorem g99_7 : exq sa F N S rt cd99 P Q 7 L st h = (tI st fun a s => brW (a = 0) (P 10 L s h) (P 13 L s h) wt wt) := e99_7
theorem g99_17 : exq sa F N S rt cd99 P Q 17 L st h = (ivSW F 131 3 st h (fun r s h' => P 20 L (pu r s) h') wt) := e99_17
theorem g99_20 : exq sa F N S rt cd99 P Q 20 L st h = (tI st fun a s => brW (a = 0) (P 23 L s h) (P 26 L s h) wt wt) := e99_20
theorem g99_27 : exq sa F N S rt cd99 P Q 27 L st h = (tR st fun a s => optW (hO h a 6) (fun fs => optW (fs[2]?) (fun v => P 30 L (v :: s) h) wt) wt) := e99_27
theorem g99_30 : exq sa F N S rt cd99 P Q 30 L st h = (tR st fun a s => optW (hO h a 2) (fun fs => optW (fs[2]?) (fun v => P 33 L (v :: s) h) wt) wt) := e99_30
theorem g99_38 : exq sa F N S rt cd99 P Q 38 L st h = (tI st fun b s => tI s fun a s => brW (a ≤ b) (P 44 L s h) (P 41 L s h) wt wt) := e99_38
theorem g99_48 : exq sa F N S rt cd99 P Q 48 L st h = (tI st fun b s => tI s fun a s => brW (b ≤ a) (P 76 L s h) (P 51 L s h) wt wt) := e99_48
theorem g99_52 : exq sa F N S rt cd99 P Q 52 L st h = (tR st fun a s => optW (hO h a 6) (fun fs => optW (fs[3]?) (fun v => P 55 L (v :: s) h) wt) wt) := e99_52
theorem g99_56 : exq sa F N S rt cd99 P Q 56 L st h = (tR st fun a s => optW (hO h a 6) (fun fs => optW (fs[2]?) (fun v => P 59 L (v :: s) h) wt) wt) := e99_56
theorem g99_59 : exq sa F N S rt cd99 P Q 59 L st h = (ivVW F 2 2 0 st h (fun r s h' => P 62 L (pu r s) h') wt) := e99_59
theorem g99_63 : exq sa F N S rt cd99 P Q 63 L st h = (tR st fun a s => optW (hO h a 6) (fun fs => optW (fs[2]?) (fun v => P 66 L (v :: s) h) wt) wt) := e99_63
theorem g99_67 : exq sa F N S rt cd99 P Q 67 L st h = (ivVW F 27 2 2 st h (fun r s h' => P 70 L (pu r s) h') wt) := e99_67
theorem g99_77 : exq sa F N S rt cd99 P Q 77 L st h = (tR st fun a s => optW (hO h a 6) (fun fs => optW (fs[2]?) (fun v => P 80 L (v :: s) h) wt) wt) := e99_77
theorem g99_80 : exq sa F N S rt cd99 P Q 80 L st h = (ivVW F 21 1 2 st h (fun r s h' => P 83 L (pu r s) h') wt) := e99_80
theorem g100_1 : exq sa F N S rt cd100 P Q 1 L st h = (tR st fun a s => optW (hO h a 6) (fun fs => optW (fs[2]?) (fun v => P 4 L (v :: s) h) wt) wt) := e100_1
theorem g100_5 : exq sa F N S rt cd100 P Q 5 L st h = (ivVW F 17 2 2 st h (fun r s h' => P 8 L (pu r s) h') wt) := e100_5
theorem g100_8 : exq sa F N S rt cd100 P Q 8 L st h = (tI st fun a s => brW (a = 0) (P 11 L s h) (P 14 L s h) wt wt) := e100_8
theorem g100_15 : exq sa F N S rt cd100 P Q 15 L st h = (tR st fun a s => optW (hO h a 6) (fun fs => optW (fs[2]?) (fun v => P 18 L (v :: s) h) wt) wt) := e100_15
theorem g100_18 : exq sa F N S rt cd100 P Q 18 L st h = (tR st fun a s => optW (hO h a 2) (fun fs => optW (fs[7]?) (fun v => P 21 L (v :: s) h) wt) wt) := e100_18
theorem g100_22 : exq sa F N S rt cd100 P Q 22 L st h = (aldW sa st h (fun v s => P 23 L (.int v :: s) h) wt) := e100_22
theorem g100_23 : exq sa F N S rt cd100 P Q 23 L st h = (tI st fun a s => brW (a = 0) (P 29 L s h) (P 26 L s h) wt wt) := e100_23
theorem g100_30 : exq sa F N S rt cd100 P Q 30 L st h = (tR st fun a s => optW (hO h a 6) (fun fs => optW (fs[3]?) (fun v => P 33 L (v :: s) h) wt) wt) := e100_30
theorem g100_34 : exq sa F N S rt cd100 P Q 34 L st h = (tR st fun a s => optW (hO h a 6) (fun fs => optW (fs[2]?) (fun v => P 37 L (v :: s) h) wt) wt) := e100_34
theorem g100_37 : exq sa F N S rt cd100 P Q 37 L st h = (ivVW F 2 2 0 st h (fun r s h' => P 40 L (pu r s) h') wt) := e100_37
theorem g100_41 : exq sa F N S rt cd100 P Q 41 L st h = (tR st fun a s => optW (hO h a 6) (fun fs => optW (fs[2]?) (fun v => P 44 L (v :: s) h) wt) wt) := e100_41
theorem g100_45 : exq sa F N S rt cd100 P Q 45 L st h = (ivVW F 23 2 2 st h (fun r s h' => P 48 L (pu r s) h') wt) := e100_45
theorem g100_49 : exq sa F N S rt cd100 P Q 49 L st h = (tR st fun a s => optW (hO h a 6) (fun fs => optW (fs[2]?) (fun v => P 52 L (v :: s) h) wt) wt) := e100_49
theorem g100_53 : exq sa F N S rt cd100 P Q 53 L st h = (ivVW F 22 2 2 st h (fun r s h' => P 56 L (pu r s) h') wt) := e100_53
theorem g101_1 : exq sa F N S rt cd101 P Q 1 L st h = (tR st fun a s => optW (hO h a 6) (fun fs => optW (fs[2]?) (fun v => P 4 L (v :: s) h) wt) wt) := e101_1
theorem g101_5 : exq sa F N S rt cd101 P Q 5 L st h = (ivVW F 17 2 2 st h (fun r s h' => P 8 L (pu r s) h') wt) := e101_5
theorem g101_8 : exq sa F N S rt cd101 P Q 8 L st h = (tI st fun a s => brW (a = 0) (P 11 L s h) (P 14 L s h) wt wt) := e101_8
theorem g101_15 : exq sa F N S rt cd101 P Q 15 L st h = (tR st fun a s => optW (hO h a 6) (fun fs => optW (fs[2]?) (fun v => P 18 L (v :: s) h) wt) wt) := e101_15
theorem g101_18 : exq sa F N S rt cd101 P Q 18 L st h = (tR st fun a s => optW (hO h a 2) (fun fs => optW (fs[7]?) (fun v => P 21 L (v :: s) h) wt) wt) := e101_18
theorem g101_22 : exq sa F N S rt cd101 P Q 22 L st h = (aldW sa st h (fun v s => P 23 L (.int v :: s) h) wt) := e101_22
theorem g101_24 : exq sa F N S rt cd101 P Q 24 L st h = (tI st fun b s => tI s fun a s => brW (a = b) (P 30 L s h) (P 27 L s h) wt wt) := e101_24
theorem g101_31 : exq sa F N S rt cd101 P Q 31 L st h = (tR st fun a s => optW (hO h a 6) (fun fs => optW (fs[3]?) (fun v => P 34 L (v :: s) h) wt) wt) := e101_31
theorem g101_35 : exq sa F N S rt cd101 P Q 35 L st h = (tR st fun a s => optW (hO h a 6) (fun fs => optW (fs[2]?) (fun v => P 38 L (v :: s) h) wt) wt) := e101_35
theorem g101_38 : exq sa F N S rt cd101 P Q 38 L st h = (ivVW F 2 2 0 st h (fun r s h' => P 41 L (pu r s) h') wt) := e101_38
theorem g101_42 : exq sa F N S rt cd101 P Q 42 L st h = (tR st fun a s => optW (hO h a 6) (fun fs => optW (fs[2]?) (fun v => P 45 L (v :: s) h) wt) wt) := e101_42
theorem g101_46 : exq sa F N S rt cd101 P Q 46 L st h = (ivVW F 24 2 2 st h (fun r s h' => P 49 L (pu r s) h') wt) := e101_46
theorem g101_50 : exq sa F N S rt cd101 P Q 50 L st h = (tR st fun a s => optW (hO h a 6) (fun fs => optW (fs[2]?) (fun v => P 53 L (v :: s) h) wt) wt) := e101_50
theorem g101_54 : exq sa F N S rt cd101 P Q 54 L st h = (ivVW F 22 2 2 st h (fun r s h' => P 57 L (pu r s) h') wt) := e101_54
theorem g102_1 : exq sa F N S rt cd102 P Q 1 L st h = (tR st fun a s => optW (hO h a 6) (fun fs => optW (fs[2]?) (fun v => P 4 L (v :: s) h) wt) wt) := e102_1
theorem g102_5 : exq sa F N S rt cd102 P Q 5 L st h = (ivVW F 17 2 2 st h (fun r s h' => P 8 L (pu r s) h') wt) := e102_5
theorem g102_8 : exq sa F N S rt cd102 P Q 8 L st h = (tI st fun a s => brW (a = 0) (P 21 L s h) (P 11 L s h) wt wt) := e102_8
theorem g102_15 : exq sa F N S rt cd102 P Q 15 L st h = (ivSW F 131 3 st h (fun r s h' => P 18 L (pu r s) h') wt) := e102_15
theorem g102_18 : exq sa F N S rt cd102 P Q 18 L st h = (tI st fun a s => brW (a = 0) (P 21 L s h) (P 24 L s h) wt wt) := e102_18
theorem g102_25 : exq sa F N S rt cd102 P Q 25 L st h = (tR st fun a s => optW (hO h a 6) (fun fs => optW (fs[2]?) (fun v => P 28 L (v :: s) h) wt) wt) := e102_25
theorem g102_28 : exq sa F N S rt cd102 P Q 28 L st h = (tR st fun a s => optW (hO h a 2) (fun fs => optW (fs[7]?) (fun v => P 31 L (v :: s) h) wt) wt) := e102_28
theorem g102_32 : exq sa F N S rt cd102 P Q 32 L st h = (aldW sa st h (fun v s => P 33 L (.int v :: s) h) wt) := e102_32
theorem g102_34 : exq sa F N S rt cd102 P Q 34 L st h = (tI st fun b s => tI s fun a s => brW (a = b) (P 37 L s h) (P 40 L s h) wt wt) := e102_34
theorem g102_41 : exq sa F N S rt cd102 P Q 41 L st h = (tR st fun a s => optW (hO h a 6) (fun fs => optW (fs[3]?) (fun v => P 44 L (v :: s) h) wt) wt) := e102_41
theorem g102_45 : exq sa F N S rt cd102 P Q 45 L st h = (tR st fun a s => optW (hO h a 6) (fun fs => optW (fs[2]?) (fun v => P 48 L (v :: s) h) wt) wt) := e102_45
theorem g102_48 : exq sa F N S rt cd102 P Q 48 L st h = (ivVW F 2 2 0 st h (fun r s h' => P 51 L (pu r s) h') wt) := e102_48
theorem g102_52 : exq sa F N S rt cd102 P Q 52 L st h = (tR st fun a s => optW (hO h a 6) (fun fs => optW (fs[2]?) (fun v => P 55 L (v :: s) h) wt) wt) := e102_52
theorem g102_55 : exq sa F N S rt cd102 P Q 55 L st h = (tR st fun a s => optW (hO h a 2) (fun fs => optW (fs[5]?) (fun v => P 58 L (v :: s) h) wt) wt) := e102_55
theorem g102_59 : exq sa F N S rt cd102 P Q 59 L st h = (aldW sa st h (fun v s => P 60 L (.int v :: s) h) wt) := e102_59
theorem g102_62 : exq sa F N S rt cd102 P Q 62 L st h = (tR st fun a s => optW (hO h a 6) (fun fs => optW (fs[2]?) (fun v => P 65 L (v :: s) h) wt) wt) := e102_62
theorem g102_65 : exq sa F N S rt cd102 P Q 65 L st h = (tR st fun a s => optW (hO h a 2) (fun fs => optW (fs[5]?) (fun v => P 68 L (v :: s) h) wt) wt) := e102_65
theorem g102_70 : exq sa F N S rt cd102 P Q 70 L st h = (tI st fun v s => tI s fun i s => tR s fun a s => optW (hI h a) (fun q => ixW i q.1 (fun k => P 71 L s (hS h a (.inl (0, q.1, .inl (upd q.2 k v))))) wt) wt) := e102_70
theorem g103_1 : exq sa F N S rt cd103 P Q 1 L st h = (tR st fun a s => optW (hO h a 6) (fun fs => optW (fs[2]?) (fun v => P 4 L (v :: s) h) wt) wt) := e103_1
theorem g103_5 : exq sa F N S rt cd103 P Q 5 L st h = (ivVW F 18 2 2 st h (fun r s h' => P 8 L (pu r s) h') wt) := e103_5
theorem g103_8 : exq sa F N S rt cd103 P Q 8 L st h = (tI st fun a s => brW (a = 0) (P 22 L s h) (P 11 L s h) wt wt) := e103_8
theorem g103_12 : exq sa F N S rt cd103 P Q 12 L st h = (tR st fun a s => optW (hO h a 6) (fun fs => optW (fs[2]?) (fun v => P 15 L (v :: s) h) wt) wt) := e103_12
theorem g103_16 : exq sa F N S rt cd103 P Q 16 L st h = (ivVW F 19 2 2 st h (fun r s h' => P 19 L (pu r s) h') wt) := e103_16
theorem g103_19 : exq sa F N S rt cd103 P Q 19 L st h = (tI st fun a s => brW (a = 0) (P 22 L s h) (P 25 L s h) wt wt) := e103_19
theorem g103_26 : exq sa F N S rt cd103 P Q 26 L st h = (tR st fun a s => optW (hO h a 6) (fun fs => optW (fs[2]?) (fun v => P 29 L (v :: s) h) wt) wt) := e103_26
theorem g103_29 : exq sa F N S rt cd103 P Q 29 L st h = (tR st fun a s => optW (hO h a 2) (fun fs => optW (fs[10]?) (fun v => P 32 L (v :: s) h) wt) wt) := e103_29
theorem g103_33 : exq sa F N S rt cd103 P Q 33 L st h = (aldW sa st h (fun v s => P 34 L (.int v :: s) h) wt) := e103_33
theorem g103_37 : exq sa F N S rt cd103 P Q 37 L st h = (tI st fun b s => tI s fun a s => brW (a = b) (P 51 L s h) (P 40 L s h) wt wt) := e103_37
theorem g103_41 : exq sa F N S rt cd103 P Q 41 L st h = (tR st fun a s => optW (hO h a 6) (fun fs => optW (fs[2]?) (fun v => P 44 L (v :: s) h) wt) wt) := e103_41
theorem g103_45 : exq sa F N S rt cd103 P Q 45 L st h = (ivVW F 20 2 2 st h (fun r s h' => P 48 L (pu r s) h') wt) := e103_45
theorem g103_48 : exq sa F N S rt cd103 P Q 48 L st h = (tI st fun a s => brW (a = 0) (P 54 L s h) (P 51 L s h) wt wt) := e103_48
theorem g103_55 : exq sa F N S rt cd103 P Q 55 L st h = (tR st fun a s => optW (hO h a 6) (fun fs => optW (fs[3]?) (fun v => P 58 L (v :: s) h) wt) wt) := e103_55
theorem g103_59 : exq sa F N S rt cd103 P Q 59 L st h = (tR st fun a s => optW (hO h a 6) (fun fs => optW (fs[2]?) (fun v => P 62 L (v :: s) h) wt) wt) := e103_59
theorem g103_62 : exq sa F N S rt cd103 P Q 62 L st h = (ivVW F 2 2 0 st h (fun r s h' => P 65 L (pu r s) h') wt) := e103_62
theorem g103_66 : exq sa F N S rt cd103 P Q 66 L st h = (tR st fun a s => optW (hO h a 6) (fun fs => optW (fs[2]?) (fun v => P 69 L (v :: s) h) wt) wt) := e103_66
theorem g103_69 : exq sa F N S rt cd103 P Q 69 L st h = (tR st fun a s => optW (hO h a 2) (fun fs => optW (fs[10]?) (fun v => P 72 L (v :: s) h) wt) wt) := e103_69
theorem g103_74 : exq sa F N S rt cd103 P Q 74 L st h = (tI st fun v s => tI s fun i s => tR s fun a s => optW (hI h a) (fun q => ixW i q.1 (fun k => P 75 L s (hS h a (.inl (0, q.1, .inl (upd q.2 k v))))) wt) wt) := e103_74
theorem g104_1 : exq sa F N S rt cd104 P Q 1 L st h = (tR st fun a s => optW (hO h a 6) (fun fs => optW (fs[2]?) (fun v => P 4 L (v :: s) h) wt) wt) := e104_1
theorem g104_5 : exq sa F N S rt cd104 P Q 5 L st h = (ivVW F 17 2 2 st h (fun r s h' => P 8 L (pu r s) h') wt) := e104_5
theorem g104_8 : exq sa F N S rt cd104 P Q 8 L st h = (tI st fun a s => brW (a = 0) (P 11 L s h) (P 14 L s h) wt wt) := e104_8
theorem g104_53 : exq sa F N S rt cd104 P Q 53 L st h = (tR st fun a s => optW (hO h a 6) (fun fs => optW (fs[2]?) (fun v => P 56 L (v :: s) h) wt) wt) := e104_53
theorem g104_56 : exq sa F N S rt cd104 P Q 56 L st h = (tR st fun a s => optW (hO h a 2) (fun fs => optW (fs[5]?) (fun v => P 59 L (v :: s) h) wt) wt) := e104_56
theorem g104_60 : exq sa F N S rt cd104 P Q 60 L st h = (aldW sa st h (fun v s => P 61 L (.int v :: s) h) wt) := e104_60
theorem g104_63 : exq sa F N S rt cd104 P Q 63 L st h = (tR st fun a s => optW (hO h a 6) (fun fs => optW (fs[2]?) (fun v => P 66 L (v :: s) h) wt) wt) := e104_63
theorem g104_66 : exq sa F N S rt cd104 P Q 66 L st h = (tR st fun a s => optW (hO h a 2) (fun fs => optW (fs[6]?) (fun v => P 69 L (v :: s) h) wt) wt) := e104_66
theorem g104_70 : exq sa F N S rt cd104 P Q 70 L st h = (aldW sa st h (fun v s => P 71 L (.int v :: s) h) wt) := e104_70
theorem g104_73 : exq sa F N S rt cd104 P Q 73 L st h = (tR st fun a s => optW (hO h a 6) (fun fs => optW (fs[2]?) (fun v => P 76 L (v :: s) h) wt) wt) := e104_73
theorem g104_76 : exq sa F N S rt cd104 P Q 76 L st h = (tR st fun a s => optW (hO h a 2) (fun fs => optW (fs[7]?) (fun v => P 79 L (v :: s) h) wt) wt) := e104_76
theorem g104_80 : exq sa F N S rt cd104 P Q 80 L st h = (aldW sa st h (fun v s => P 81 L (.int v :: s) h) wt) := e104_80
theorem g104_83 : exq sa F N S rt cd104 P Q 83 L st h = (tR st fun a s => optW (hO h a 6) (fun fs => optW (fs[2]?) (fun v => P 86 L (v :: s) h) wt) wt) := e104_83
theorem g104_86 : exq sa F N S rt cd104 P Q 86 L st h = (tR st fun a s => optW (hO h a 2) (fun fs => optW (fs[8]?) (fun v => P 89 L (v :: s) h) wt) wt) := e104_86
theorem g104_90 : exq sa F N S rt cd104 P Q 90 L st h = (aldW sa st h (fun v s => P 91 L (.int v :: s) h) wt) := e104_90
theorem g104_93 : exq sa F N S rt cd104 P Q 93 L st h = (tR st fun a s => optW (hO h a 6) (fun fs => optW (fs[2]?) (fun v => P 96 L (v :: s) h) wt) wt) := e104_93
theorem g104_97 : exq sa F N S rt cd104 P Q 97 L st h = (ivVW F 33 2 2 st h (fun r s h' => P 100 L (pu r s) h') wt) := e104_97
theorem g104_102 : exq sa F N S rt cd104 P Q 102 L st h = (tR st fun a s => optW (hO h a 6) (fun fs => optW (fs[2]?) (fun v => P 105 L (v :: s) h) wt) wt) := e104_102
theorem g104_105 : exq sa F N S rt cd104 P Q 105 L st h = (tR st fun a s => optW (hO h a 2) (fun fs => optW (fs[7]?) (fun v => P 108 L (v :: s) h) wt) wt) := e104_105
theorem g104_109 : exq sa F N S rt cd104 P Q 109 L st h = (aldW sa st h (fun v s => P 110 L (.int v :: s) h) wt) := e104_109
theorem g104_111 : exq sa F N S rt cd104 P Q 111 L st h = (tI st fun b s => tI s fun a s => brW (a = b) (P 114 L s h) (P 137 L s h) wt wt) := e104_111
theorem g104_115 : exq sa F N S rt cd104 P Q 115 L st h = (tR st fun a s => optW (hO h a 6) (fun fs => optW (fs[2]?) (fun v => P 118 L (v :: s) h) wt) wt) := e104_115
theorem g104_118 : exq sa F N S rt cd104 P Q 118 L st h = (tR st fun a s => optW (hO h a 2) (fun fs => optW (fs[5]?) (fun v => P 121 L (v :: s) h) wt) wt) := e104_118
theorem g104_122 : exq sa F N S rt cd104 P Q 122 L st h = (aldW sa st h (fun v s => P 123 L (.int v :: s) h) wt) := e104_122
theorem g104_123 : exq sa F N S rt cd104 P Q 123 L st h = (tI st fun a s => brW (a ≤ 0) (P 137 L s h) (P 126 L s h) wt wt) := e104_123
theorem g104_127 : exq sa F N S rt cd104 P Q 127 L st h = (tR st fun a s => optW (hO h a 6) (fun fs => optW (fs[2]?) (fun v => P 130 L (v :: s) h) wt) wt) := e104_127
theorem g104_131 : exq sa F N S rt cd104 P Q 131 L st h = (ivVW F 37 2 2 st h (fun r s h' => P 134 L (pu r s) h') wt) := e104_131
theorem g105_1 : exq sa F N S rt cd105 P Q 1 L st h = (tR st fun a s => optW (hO h a 6) (fun fs => optW (fs[2]?) (fun v => P 4 L (v :: s) h) wt) wt) := e105_1
theorem g105_5 : exq sa F N S rt cd105 P Q 5 L st h = (ivVW F 18 2 2 st h (fun r s h' => P 8 L (pu r s) h') wt) := e105_5
theorem g105_8 : exq sa F N S rt cd105 P Q 8 L st h = (tI st fun a s => brW (a = 0) (P 11 L s h) (P 14 L s h) wt wt) := e105_8
theorem g105_45 : exq sa F N S rt cd105 P Q 45 L st h = (tR st fun a s => optW (hO h a 6) (fun fs => optW (fs[2]?) (fun v => P 48 L (v :: s) h) wt) wt) := e105_45
theorem g105_48 : exq sa F N S rt cd105 P Q 48 L st h = (tR st fun a s => optW (hO h a 2) (fun fs => optW (fs[10]?) (fun v => P 51 L (v :: s) h) wt) wt) := e105_48
theorem g105_52 : exq sa F N S rt cd105 P Q 52 L st h = (aldW sa st h (fun v s => P 53 L (.int v :: s) h) wt) := e105_52
theorem g105_55 : exq sa F N S rt cd105 P Q 55 L st h = (tR st fun a s => optW (hO h a 6) (fun fs => optW (fs[2]?) (fun v => P 58 L (v :: s) h) wt) wt) := e105_55
theorem g105_58 : exq sa F N S rt cd105 P Q 58 L st h = (tR st fun a s => optW (hO h a 2) (fun fs => optW (fs[11]?) (fun v => P 61 L (v :: s) h) wt) wt) := e105_58
theorem g105_62 : exq sa F N S rt cd105 P Q 62 L st h = (aldW sa st h (fun v s => P 63 L (.int v :: s) h) wt) := e105_62
theorem g105_65 : exq sa F N S rt cd105 P Q 65 L st h = (tR st fun a s => optW (hO h a 6) (fun fs => optW (fs[2]?) (fun v => P 68 L (v :: s) h) wt) wt) := e105_65
theorem g105_68 : exq sa F N S rt cd105 P Q 68 L st h = (tR st fun a s => optW (hO h a 2) (fun fs => optW (fs[12]?) (fun v => P 71 L (v :: s) h) wt) wt) := e105_68
theorem g105_72 : exq sa F N S rt cd105 P Q 72 L st h = (aldW sa st h (fun v s => P 73 L (.int v :: s) h) wt) := e105_72
theorem g105_75 : exq sa F N S rt cd105 P Q 75 L st h = (tR st fun a s => optW (hO h a 6) (fun fs => optW (fs[2]?) (fun v => P 78 L (v :: s) h) wt) wt) := e105_75
theorem g105_79 : exq sa F N S rt cd105 P Q 79 L st h = (ivVW F 20 2 2 st h (fun r s h' => P 82 L (pu r s) h') wt) := e105_79
theorem g105_82 : exq sa F N S rt cd105 P Q 82 L st h = (tI st fun a s => brW (a = 0) (P 89 L s h) (P 85 L s h) wt wt) := e105_82
end GL
