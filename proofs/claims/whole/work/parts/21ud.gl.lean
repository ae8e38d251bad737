/-! what each instruction does, held back -/
section GL
variable {sa : aS} {F : aF} {N S : Nat} {rt : Option FieldType} {P : aK} {Q : aQ} {L : aL} {st : List Value} {h : aH}
theorem g158_1 : exq sa F N S rt cd158 P Q 1 L st h = (tR st fun a s => optW (hO h a 7) (fun fs => optW (fs[7]?) (fun v => P 4 L (v :: s) h) wt) wt) := e158_1
theorem g158_4 : exq sa F N S rt cd158 P Q 4 L st h = (ivSW F 157 1 st h (fun r s h' => P 7 L (pu r s) h') wt) := e158_4
theorem g158_9 : exq sa F N S rt cd158 P Q 9 L st h = (tI st fun a s => brW (a = 0) (P 12 L s h) (P 18 L s h) wt wt) := e158_9
theorem g158_14 : exq sa F N S rt cd158 P Q 14 L st h = (ivVW F 152 2 7 st h (fun r s h' => P 17 L (pu r s) h') wt) := e158_14
theorem g158_19 : exq sa F N S rt cd158 P Q 19 L st h = (tR st fun a s => optW (hO h a 7) (fun fs => optW (fs[12]?) (fun v => P 22 L (v :: s) h) wt) wt) := e158_19
theorem g158_23 : exq sa F N S rt cd158 P Q 23 L st h = (aldW sa st h (fun v s => P 24 L (.int v :: s) h) wt) := e158_23
theorem g158_25 : exq sa F N S rt cd158 P Q 25 L st h = (tI st fun b s => tI s fun a s => brW (a = b) (P 28 L s h) (P 34 L s h) wt wt) := e158_25
theorem g158_30 : exq sa F N S rt cd158 P Q 30 L st h = (ivVW F 152 2 7 st h (fun r s h' => P 33 L (pu r s) h') wt) := e158_30
theorem g158_35 : exq sa F N S rt cd158 P Q 35 L st h = (tR st fun a s => optW (hO h a 7) (fun fs => optW (fs[12]?) (fun v => P 38 L (v :: s) h) wt) wt) := e158_35
theorem g158_39 : exq sa F N S rt cd158 P Q 39 L st h = (aldW sa st h (fun v s => P 40 L (.int v :: s) h) wt) := e158_39
theorem g158_42 : exq sa F N S rt cd158 P Q 42 L st h = (tR st fun a s => optW (hO h a 7) (fun fs => optW (fs[12]?) (fun v => P 45 L (v :: s) h) wt) wt) := e158_42
theorem g158_47 : exq sa F N S rt cd158 P Q 47 L st h = (aldW sa st h (fun v s => P 48 L (.int v :: s) h) wt) := e158_47
theorem g158_50 : exq sa F N S rt cd158 P Q 50 L st h = (tI st fun v s => tI s fun i s => tR s fun a s => optW (hI h a) (fun q => ixW i q.1 (fun k => P 51 L s (hS h a (.inl (0, q.1, .inl (upd q.2 k v))))) wt) wt) := e158_50
theorem g158_52 : exq sa F N S rt cd158 P Q 52 L st h = (tR st fun a s => optW (hO h a 7) (fun fs => optW (fs[12]?) (fun v => P 55 L (v :: s) h) wt) wt) := e158_52
theorem g158_59 : exq sa F N S rt cd158 P Q 59 L st h = (tI st fun v s => tI s fun i s => tR s fun a s => optW (hI h a) (fun q => ixW i q.1 (fun k => P 60 L s (hS h a (.inl (0, q.1, .inl (upd q.2 k v))))) wt) wt) := e158_59
theorem g158_62 : exq sa F N S rt cd158 P Q 62 L st h = (tR st fun a s => optW (hO h a 7) (fun fs => optW (fs[13]?) (fun v => P 65 L (v :: s) h) wt) wt) := e158_62
theorem g158_72 : exq sa F N S rt cd158 P Q 72 L st h = (ivVW F 153 5 7 st h (fun r s h' => P 75 L (pu r s) h') wt) := e158_72
theorem g158_75 : exq sa F N S rt cd158 P Q 75 L st h = (tI st fun a s => brW (a = 0) (P 91 L s h) (P 78 L s h) wt wt) := e158_75
theorem g158_81 : exq sa F N S rt cd158 P Q 81 L st h = (ivVW F 154 2 7 st h (fun r s h' => P 84 L (pu r s) h') wt) := e158_81
theorem g158_84 : exq sa F N S rt cd158 P Q 84 L st h = (tI st fun a s => brW (a = 0) (P 91 L s h) (P 87 L s h) wt wt) := e158_84
theorem g159_2 : exq sa F N S rt cd159 P Q 2 L st h = (pfdW st h 7 6 0 (fun s h' => P 5 L s h') wt) := e159_2
theorem g159_6 : exq sa F N S rt cd159 P Q 6 L st h = (tR st fun a s => optW (hO h a 7) (fun fs => optW (fs[12]?) (fun v => P 9 L (v :: s) h) wt) wt) := e159_6
theorem g159_11 : exq sa F N S rt cd159 P Q 11 L st h = (tI st fun v s => tI s fun i s => tR s fun a s => optW (hI h a) (fun q => ixW i q.1 (fun k => P 12 L s (hS h a (.inl (0, q.1, .inl (upd q.2 k v))))) wt) wt) := e159_11
theorem g159_13 : exq sa F N S rt cd159 P Q 13 L st h = (tR st fun a s => optW (hO h a 7) (fun fs => optW (fs[12]?) (fun v => P 16 L (v :: s) h) wt) wt) := e159_13
theorem g159_18 : exq sa F N S rt cd159 P Q 18 L st h = (tI st fun v s => tI s fun i s => tR s fun a s => optW (hI h a) (fun q => ixW i q.1 (fun k => P 19 L s (hS h a (.inl (0, q.1, .inl (upd q.2 k v))))) wt) wt) := e159_18
theorem g159_24 : exq sa F N S rt cd159 P Q 24 L st h = (tI st fun b s => tI s fun a s => brW (b ≤ a) (P 40 L s h) (P 27 L s h) wt wt) := e159_24
theorem g159_28 : exq sa F N S rt cd159 P Q 28 L st h = (tR st fun a s => optW (hO h a 7) (fun fs => optW (fs[13]?) (fun v => P 31 L (v :: s) h) wt) wt) := e159_28
theorem g159_33 : exq sa F N S rt cd159 P Q 33 L st h = (tI st fun v s => tI s fun i s => tR s fun a s => optW (hI h a) (fun q => ixW i q.1 (fun k => P 34 L s (hS h a (.inl (0, q.1, .inl (upd q.2 k v))))) wt) wt) := e159_33
theorem g159_41 : exq sa F N S rt cd159 P Q 41 L st h = (ivVW F 151 1 7 st h (fun r s h' => P 44 L (pu r s) h') wt) := e159_41
theorem g159_45 : exq sa F N S rt cd159 P Q 45 L st h = (ivVW F 155 1 7 st h (fun r s h' => P 48 L (pu r s) h') wt) := e159_45
theorem g159_48 : exq sa F N S rt cd159 P Q 48 L st h = (tI st fun a s => brW (a = 0) (P 51 L s h) (P 53 L s h) wt wt) := e159_48
theorem g159_54 : exq sa F N S rt cd159 P Q 54 L st h = (ivVW F 151 1 7 st h (fun r s h' => P 57 L (pu r s) h') wt) := e159_54
theorem g159_58 : exq sa F N S rt cd159 P Q 58 L st h = (tR st fun a s => optW (hO h a 7) (fun fs => optW (fs[7]?) (fun v => P 61 L (v :: s) h) wt) wt) := e159_58
theorem g159_63 : exq sa F N S rt cd159 P Q 63 L st h = (tI st fun b s => tI s fun a s => brW (a = b) (P 66 L s h) (P 82 L s h) wt wt) := e159_63
theorem g159_67 : exq sa F N S rt cd159 P Q 67 L st h = (ivVW F 156 1 7 st h (fun r s h' => P 70 L (pu r s) h') wt) := e159_67
theorem g159_70 : exq sa F N S rt cd159 P Q 70 L st h = (tI st fun a s => brW (a = 0) (P 73 L s h) (P 75 L s h) wt wt) := e159_70
theorem g159_76 : exq sa F N S rt cd159 P Q 76 L st h = (ivVW F 151 1 7 st h (fun r s h' => P 79 L (pu r s) h') wt) := e159_76
theorem g159_83 : exq sa F N S rt cd159 P Q 83 L st h = (tR st fun a s => optW (hO h a 7) (fun fs => optW (fs[12]?) (fun v => P 86 L (v :: s) h) wt) wt) := e159_83
theorem g159_87 : exq sa F N S rt cd159 P Q 87 L st h = (aldW sa st h (fun v s => P 88 L (.int v :: s) h) wt) := e159_87
theorem g159_88 : exq sa F N S rt cd159 P Q 88 L st h = (tI st fun a s => brW (a = 0) (P 91 L s h) (P 97 L s h) wt wt) := e159_88
theorem g159_93 : exq sa F N S rt cd159 P Q 93 L st h = (ivVW F 152 2 7 st h (fun r s h' => P 96 L (pu r s) h') wt) := e159_93
theorem g159_98 : exq sa F N S rt cd159 P Q 98 L st h = (tR st fun a s => optW (hO h a 7) (fun fs => optW (fs[7]?) (fun v => P 101 L (v :: s) h) wt) wt) := e159_98
theorem g159_102 : exq sa F N S rt cd159 P Q 102 L st h = (tI st fun b s => tI s fun a s => brW (a = b) (P 105 L s h) (P 114 L s h) wt wt) := e159_102
theorem g159_106 : exq sa F N S rt cd159 P Q 106 L st h = (tR st fun a s => optW (hO h a 7) (fun fs => optW (fs[12]?) (fun v => P 109 L (v :: s) h) wt) wt) := e159_106
theorem g159_110 : exq sa F N S rt cd159 P Q 110 L st h = (aldW sa st h (fun v s => P 111 L (.int v :: s) h) wt) := e159_110
theorem g159_111 : exq sa F N S rt cd159 P Q 111 L st h = (tI st fun a s => brW (a = 0) (P 114 L s h) (P 130 L s h) wt wt) := e159_111
theorem g159_115 : exq sa F N S rt cd159 P Q 115 L st h = (ivVW F 158 1 7 st h (fun r s h' => P 118 L (pu r s) h') wt) := e159_115
theorem g159_118 : exq sa F N S rt cd159 P Q 118 L st h = (tI st fun a s => brW (a = 0) (P 121 L s h) (P 123 L s h) wt wt) := e159_118
theorem g159_124 : exq sa F N S rt cd159 P Q 124 L st h = (ivVW F 151 1 7 st h (fun r s h' => P 127 L (pu r s) h') wt) := e159_124
theorem g160_1 : exq sa F N S rt cd160 P Q 1 L st h = (ivVW F 159 1 7 st h (fun r s h' => P 4 L (pu r s) h') wt) := e160_1
theorem g160_6 : exq sa F N S rt cd160 P Q 6 L st h = (tR st fun a s => optW (hO h a 7) (fun fs => optW (fs[7]?) (fun v => P 9 L (v :: s) h) wt) wt) := e160_6
theorem g160_10 : exq sa F N S rt cd160 P Q 10 L st h = (tI st fun b s => tI s fun a s => brW (a = b) (P 13 L s h) (P 20 L s h) wt wt) := e160_10
theorem g160_14 : exq sa F N S rt cd160 P Q 14 L st h = (tR st fun a s => optW (hO h a 7) (fun fs => optW (fs[4]?) (fun v => P 17 L (v :: s) h) wt) wt) := e160_14
theorem g160_21 : exq sa F N S rt cd160 P Q 21 L st h = (tR st fun a s => optW (hO h a 7) (fun fs => optW (fs[9]?) (fun v => P 24 L (v :: s) h) wt) wt) := e160_21
theorem g160_27 : exq sa F N S rt cd160 P Q 27 L st h = (pfdW st h 7 4 0 (fun s h' => P 30 L s h') wt) := e160_27
theorem g160_31 : exq sa F N S rt cd160 P Q 31 L st h = (tI st fun a s => brW (a = 0) (P 34 L s h) (P 47 L s h) wt wt) := e160_31
theorem g160_36 : exq sa F N S rt cd160 P Q 36 L st h = (tR st fun a s => optW (hO h a 7) (fun fs => optW (fs[10]?) (fun v => P 39 L (v :: s) h) wt) wt) := e160_36
theorem g160_39 : exq sa F N S rt cd160 P Q 39 L st h = (pfdW st h 7 11 0 (fun s h' => P 42 L s h') wt) := e160_39
theorem g160_49 : exq sa F N S rt cd160 P Q 49 L st h = (pfdW st h 7 15 1 (fun s h' => P 52 L s h') wt) := e160_49
theorem g160_57 : exq sa F N S rt cd160 P Q 57 L st h = (tI st fun b s => tI s fun a s => brW (b ≤ a) (P 78 L s h) (P 60 L s h) wt wt) := e160_57
theorem g160_61 : exq sa F N S rt cd160 P Q 61 L st h = (tR st fun a s => optW (hO h a 7) (fun fs => optW (fs[16]?) (fun v => P 64 L (v :: s) h) wt) wt) := e160_61
theorem g160_66 : exq sa F N S rt cd160 P Q 66 L st h = (tR st fun a s => optW (hO h a 7) (fun fs => optW (fs[12]?) (fun v => P 69 L (v :: s) h) wt) wt) := e160_66
theorem g160_70 : exq sa F N S rt cd160 P Q 70 L st h = (aldW sa st h (fun v s => P 71 L (.int v :: s) h) wt) := e160_70
theorem g160_71 : exq sa F N S rt cd160 P Q 71 L st h = (tI st fun v s => tI s fun i s => tR s fun a s => optW (hI h a) (fun q => ixW i q.1 (fun k => P 72 L s (hS h a (.inl (0, q.1, .inl (upd q.2 k v))))) wt) wt) := e160_71
theorem g160_83 : exq sa F N S rt cd160 P Q 83 L st h = (tI st fun b s => tI s fun a s => brW (b ≤ a) (P 104 L s h) (P 86 L s h) wt wt) := e160_83
theorem g160_87 : exq sa F N S rt cd160 P Q 87 L st h = (tR st fun a s => optW (hO h a 7) (fun fs => optW (fs[17]?) (fun v => P 90 L (v :: s) h) wt) wt) := e160_87
theorem g160_92 : exq sa F N S rt cd160 P Q 92 L st h = (tR st fun a s => optW (hO h a 7) (fun fs => optW (fs[13]?) (fun v => P 95 L (v :: s) h) wt) wt) := e160_92
theorem g160_96 : exq sa F N S rt cd160 P Q 96 L st h = (aldW sa st h (fun v s => P 97 L (.int v :: s) h) wt) := e160_96
theorem g160_97 : exq sa F N S rt cd160 P Q 97 L st h = (tI st fun v s => tI s fun i s => tR s fun a s => optW (hI h a) (fun q => ixW i q.1 (fun k => P 98 L s (hS h a (.inl (0, q.1, .inl (upd q.2 k v))))) wt) wt) := e160_97
theorem g160_106 : exq sa F N S rt cd160 P Q 106 L st h = (pfdW st h 7 20 0 (fun s h' => P 109 L s h') wt) := e160_106
theorem g160_110 : exq sa F N S rt cd160 P Q 110 L st h = (tR st fun a s => optW (hO h a 7) (fun fs => optW (fs[16]?) (fun v => P 113 L (v :: s) h) wt) wt) := e160_110
theorem g160_114 : exq sa F N S rt cd160 P Q 114 L st h = (aldW sa st h (fun v s => P 115 L (.int v :: s) h) wt) := e160_114
theorem g161_1 : exq sa F N S rt cd161 P Q 1 L st h = (tR st fun a s => optW (hO h a 7) (fun fs => optW (fs[11]?) (fun v => P 4 L (v :: s) h) wt) wt) := e161_1
theorem g162_3 : exq sa F N S rt cd162 P Q 3 L st h = (tR st fun a s => optW (hO h a 7) (fun fs => optW (fs[16]?) (fun v => P 6 L (v :: s) h) wt) wt) := e162_3
theorem g162_7 : exq sa F N S rt cd162 P Q 7 L st h = (aldW sa st h (fun v s => P 8 L (.int v :: s) h) wt) := e162_7
theorem g162_10 : exq sa F N S rt cd162 P Q 10 L st h = (ivSW F 135 3 st h (fun r s h' => P 13 L (pu r s) h') wt) := e162_10
theorem g163_3 : exq sa F N S rt cd163 P Q 3 L st h = (tR st fun a s => optW (hO h a 7) (fun fs => optW (fs[16]?) (fun v => P 6 L (v :: s) h) wt) wt) := e163_3
theorem g163_7 : exq sa F N S rt cd163 P Q 7 L st h = (aldW sa st h (fun v s => P 8 L (.int v :: s) h) wt) := e163_7
theorem g163_10 : exq sa F N S rt cd163 P Q 10 L st h = (ivSW F 135 3 st h (fun r s h' => P 13 L (pu r s) h') wt) := e163_10
theorem g164_3 : exq sa F N S rt cd164 P Q 3 L st h = (tR st fun a s => optW (hO h a 7) (fun fs => optW (fs[16]?) (fun v => P 6 L (v :: s) h) wt) wt) := e164_3
theorem g164_7 : exq sa F N S rt cd164 P Q 7 L st h = (aldW sa st h (fun v s => P 8 L (.int v :: s) h) wt) := e164_7
theorem g164_10 : exq sa F N S rt cd164 P Q 10 L st h = (ivSW F 135 3 st h (fun r s h' => P 13 L (pu r s) h') wt) := e164_10
theorem g165_2 : exq sa F N S rt cd165 P Q 2 L st h = (tI st fun b s => tI s fun a s => brW (b ≤ a) (P 11 L s h) (P 5 L s h) wt wt) := e165_2
theorem g166_14 : exq sa F N S rt cd166 P Q 14 L st h = (tR st fun a s => optW (hO h a 7) (fun fs => optW (fs[16]?) (fun v => P 17 L (v :: s) h) wt) wt) := e166_14
theorem g166_18 : exq sa F N S rt cd166 P Q 18 L st h = (aldW sa st h (fun v s => P 19 L (.int v :: s) h) wt) := e166_18
theorem g166_19 : exq sa F N S rt cd166 P Q 19 L st h = (tI st fun b s => tI s fun a s => brW (b ≤ a) (P 118 L s h) (P 22 L s h) wt wt) := e166_19
theorem g166_27 : exq sa F N S rt cd166 P Q 27 L st h = (aldW sa st h (fun v s => P 28 L (.int v :: s) h) wt) := e166_27
theorem g166_29 : exq sa F N S rt cd166 P Q 29 L st h = (ivSW F 165 2 st h (fun r s h' => P 32 L (pu r s) h') wt) := e166_29
theorem g166_33 : exq sa F N S rt cd166 P Q 33 L st h = (tI st fun a s => brW (a = 0) (P 55 L s h) (P 36 L s h) wt wt) := e166_33
theorem g166_41 : exq sa F N S rt cd166 P Q 41 L st h = (tR st fun a s => optW (hO h a 7) (fun fs => optW (fs[16]?) (fun v => P 44 L (v :: s) h) wt) wt) := e166_41
theorem g166_49 : exq sa F N S rt cd166 P Q 49 L st h = (aldW sa st h (fun v s => P 50 L (.int v :: s) h) wt) := e166_49
theorem g166_61 : exq sa F N S rt cd166 P Q 61 L st h = (aldW sa st h (fun v s => P 62 L (.int v :: s) h) wt) := e166_61
theorem g166_64 : exq sa F N S rt cd166 P Q 64 L st h = (ivSW F 136 2 st h (fun r s h' => P 67 L (pu r s) h') wt) := e166_64
theorem g166_67 : exq sa F N S rt cd166 P Q 67 L st h = (tI st fun a s => brW (a = 0) (P 70 L s h) (P 81 L s h) wt wt) := e166_67
theorem g166_74 : exq sa F N S rt cd166 P Q 74 L st h = (tI st fun b s => tI s fun a s => brW (b ≤ a) (P 81 L s h) (P 77 L s h) wt wt) := e166_74
theorem g166_86 : exq sa F N S rt cd166 P Q 86 L st h = (tI st fun a s => brW (a = 0) (P 94 L s h) (P 89 L s h) wt wt) := e166_86
theorem g166_100 : exq sa F N S rt cd166 P Q 100 L st h = (tI st fun a s => brW (a = 0) (P 108 L s h) (P 103 L s h) wt wt) := e166_100
theorem g167_1 : exq sa F N S rt cd167 P Q 1 L st h = (tR st fun a s => optW (hO h a 7) (fun fs => optW (fs[16]?) (fun v => P 4 L (v :: s) h) wt) wt) := e167_1
theorem g167_7 : exq sa F N S rt cd167 P Q 7 L st h = (aldW sa st h (fun v s => P 8 L (.int v :: s) h) wt) := e167_7
theorem g167_11 : exq sa F N S rt cd167 P Q 11 L st h = (tI st fun b s => tI s fun a s => brW (a = b) (P 19 L s h) (P 14 L s h) wt wt) := e167_11
theorem g167_16 : exq sa F N S rt cd167 P Q 16 L st h = (tI st fun b s => tI s fun a s => brW (a = b) (P 19 L s h) (P 43 L s h) wt wt) := e167_16
theorem g167_26 : exq sa F N S rt cd167 P Q 26 L st h = (aldW sa st h (fun v s => P 27 L (.int v :: s) h) wt) := e167_26
theorem g167_29 : exq sa F N S rt cd167 P Q 29 L st h = (tI st fun b s => tI s fun a s => brW (a = b) (P 32 L s h) (P 36 L s h) wt wt) := e167_29
theorem g167_37 : exq sa F N S rt cd167 P Q 37 L st h = (ivVW F 166 4 7 st h (fun r s h' => P 40 L (pu r s) h') wt) := e167_37
theorem g168_2 : exq sa F N S rt cd168 P Q 2 L st h = (ivSW F 165 2 st h (fun r s h' => P 5 L (pu r s) h') wt) := e168_2
theorem g168_6 : exq sa F N S rt cd168 P Q 6 L st h = (tI st fun b s => tI s fun a s => brW (b < a) (P 13 L s h) (P 9 L s h) wt wt) := e168_6
theorem g168_15 : exq sa F N S rt cd168 P Q 15 L st h = (tI st fun b s => tI s fun a s => brW (b ≤ a) (P 24 L s h) (P 18 L s h) wt wt) := e168_15
theorem g169_5 : exq sa F N S rt cd169 P Q 5 L st h = (aldW sa st h (fun v s => P 6 L (.int v :: s) h) wt) := e169_5
theorem g169_10 : exq sa F N S rt cd169 P Q 10 L st h = (ivVW F 167 3 7 st h (fun r s h' => P 13 L (pu r s) h') wt) := e169_10
theorem g169_16 : exq sa F N S rt cd169 P Q 16 L st h = (tR st fun a s => optW (hO h a 7) (fun fs => optW (fs[16]?) (fun v => P 19 L (v :: s) h) wt) wt) := e169_16
theorem g169_22 : exq sa F N S rt cd169 P Q 22 L st h = (aldW sa st h (fun v s => P 23 L (.int v :: s) h) wt) := e169_22
theorem g169_65 : exq sa F N S rt cd169 P Q 65 L st h = (tI st fun b s => tI s fun a s => brW (a = b) (P 68 L s h) (P 72 L s h) wt wt) := e169_65
theorem g169_78 : exq sa F N S rt cd169 P Q 78 L st h = (aldW sa st h (fun v s => P 79 L (.int v :: s) h) wt) := e169_78
theorem g169_80 : exq sa F N S rt cd169 P Q 80 L st h = (tR st fun a s => optW (hO h a 7) (fun fs => optW (fs[16]?) (fun v => P 83 L (v :: s) h) wt) wt) := e169_80
theorem g169_86 : exq sa F N S rt cd169 P Q 86 L st h = (aldW sa st h (fun v s => P 87 L (.int v :: s) h) wt) := e169_86
theorem g169_87 : exq sa F N S rt cd169 P Q 87 L st h = (ivSW F 168 3 st h (fun r s h' => P 90 L (pu r s) h') wt) := e169_87
theorem g169_90 : exq sa F N S rt cd169 P Q 90 L st h = (tI st fun v s => tI s fun i s => tR s fun a s => optW (hI h a) (fun q => ixW i q.1 (fun k => P 91 L s (hS h a (.inl (0, q.1, .inl (upd q.2 k v))))) wt) wt) := e169_90
theorem g169_103 : exq sa F N S rt cd169 P Q 103 L st h = (tR st fun a s => optW (hO h a 7) (fun fs => optW (fs[16]?) (fun v => P 106 L (v :: s) h) wt) wt) := e169_103
theorem g169_107 : exq sa F N S rt cd169 P Q 107 L st h = (aldW sa st h (fun v s => P 108 L (.int v :: s) h) wt) := e169_107
theorem g169_109 : exq sa F N S rt cd169 P Q 109 L st h = (tI st fun v s => tI s fun i s => tR s fun a s => optW (hI h a) (fun q => ixW i q.1 (fun k => P 110 L s (hS h a (.inl (0, q.1, .inl (upd q.2 k v))))) wt) wt) := e169_109
theorem g169_119 : exq sa F N S rt cd169 P Q 119 L st h = (tI st fun a s => brW (a ≤ 0) (P 128 L s h) (P 122 L s h) wt wt) := e169_119
theorem g169_129 : exq sa F N S rt cd169 P Q 129 L st h = (tI st fun v s => tI s fun i s => tR s fun a s => optW (hI h a) (fun q => ixW i q.1 (fun k => P 130 L s (hS h a (.inl (0, q.1, .inl (upd q.2 k v))))) wt) wt) := e169_129
theorem g170_1 : exq sa F N S rt cd170 P Q 1 L st h = (tR st fun a s => optW (hO h a 7) (fun fs => optW (fs[16]?) (fun v => P 4 L (v :: s) h) wt) wt) := e170_1
theorem g170_7 : exq sa F N S rt cd170 P Q 7 L st h = (aldW sa st h (fun v s => P 8 L (.int v :: s) h) wt) := e170_7
theorem g170_11 : exq sa F N S rt cd170 P Q 11 L st h = (tI st fun b s => tI s fun a s => brW (a = b) (P 14 L s h) (P 19 L s h) wt wt) := e170_11
theorem g170_21 : exq sa F N S rt cd170 P Q 21 L st h = (tI st fun b s => tI s fun a s => brW (a = b) (P 29 L s h) (P 24 L s h) wt wt) := e170_21
theorem g170_26 : exq sa F N S rt cd170 P Q 26 L st h = (tI st fun b s => tI s fun a s => brW (a = b) (P 29 L s h) (P 40 L s h) wt wt) := e170_26
theorem g170_34 : exq sa F N S rt cd170 P Q 34 L st h = (aldW sa st h (fun v s => P 35 L (.int v :: s) h) wt) := e170_34
theorem g170_45 : exq sa F N S rt cd170 P Q 45 L st h = (aldW sa st h (fun v s => P 46 L (.int v :: s) h) wt) := e170_45
theorem g170_58 : exq sa F N S rt cd170 P Q 58 L st h = (tR st fun a s => optW (hO h a 7) (fun fs => optW (fs[16]?) (fun v => P 61 L (v :: s) h) wt) wt) := e170_58
theorem g170_62 : exq sa F N S rt cd170 P Q 62 L st h = (aldW sa st h (fun v s => P 63 L (.int v :: s) h) wt) := e170_62
theorem g170_63 : exq sa F N S rt cd170 P Q 63 L st h = (tI st fun b s => tI s fun a s => brW (b ≤ a) (P 164 L s h) (P 66 L s h) wt wt) := e170_63
theorem g170_71 : exq sa F N S rt cd170 P Q 71 L st h = (aldW sa st h (fun v s => P 72 L (.int v :: s) h) wt) := e170_71
theorem g170_77 : exq sa F N S rt cd170 P Q 77 L st h = (aldW sa st h (fun v s => P 78 L (.int v :: s) h) wt) := e170_77
theorem g170_78 : exq sa F N S rt cd170 P Q 78 L st h = (tI st fun b s => tI s fun a s => brW (a = b) (P 81 L s h) (P 111 L s h) wt wt) := e170_78
theorem g170_83 : exq sa F N S rt cd170 P Q 83 L st h = (aldW sa st h (fun v s => P 84 L (.int v :: s) h) wt) := e170_83
theorem g170_86 : exq sa F N S rt cd170 P Q 86 L st h = (ivSW F 136 2 st h (fun r s h' => P 89 L (pu r s) h') wt) := e170_86
theorem g170_89 : exq sa F N S rt cd170 P Q 89 L st h = (tI st fun a s => brW (a = 0) (P 92 L s h) (P 111 L s h) wt wt) := e170_89
theorem g170_93 : exq sa F N S rt cd170 P Q 93 L st h = (tR st fun a s => optW (hO h a 7) (fun fs => optW (fs[16]?) (fun v => P 96 L (v :: s) h) wt) wt) := e170_93
theorem g170_101 : exq sa F N S rt cd170 P Q 101 L st h = (aldW sa st h (fun v s => P 102 L (.int v :: s) h) wt) := e170_101
theorem g170_104 : exq sa F N S rt cd170 P Q 104 L st h = (tI st fun b s => tI s fun a s => brW (b < a) (P 111 L s h) (P 107 L s h) wt wt) := e170_104
theorem g170_116 : exq sa F N S rt cd170 P Q 116 L st h = (tI st fun a s => brW (a = 0) (P 154 L s h) (P 119 L s h) wt wt) := e170_116
theorem g170_123 : exq sa F N S rt cd170 P Q 123 L st h = (tI st fun b s => tI s fun a s => brW (a = b) (P 149 L s h) (P 126 L s h) wt wt) := e170_123
theorem g170_127 : exq sa F N S rt cd170 P Q 127 L st h = (tR st fun a s => optW (hO h a 7) (fun fs => optW (fs[16]?) (fun v => P 130 L (v :: s) h) wt) wt) := e170_127
theorem g170_135 : exq sa F N S rt cd170 P Q 135 L st h = (aldW sa st h (fun v s => P 136 L (.int v :: s) h) wt) := e170_135
theorem g170_137 : exq sa F N S rt cd170 P Q 137 L st h = (tR st fun a s => optW (hO h a 7) (fun fs => optW (fs[16]?) (fun v => P 140 L (v :: s) h) wt) wt) := e170_137
theorem g170_145 : exq sa F N S rt cd170 P Q 145 L st h = (aldW sa st h (fun v s => P 146 L (.int v :: s) h) wt) := e170_145
theorem g170_146 : exq sa F N S rt cd170 P Q 146 L st h = (tI st fun b s => tI s fun a s => brW (a ≤ b) (P 154 L s h) (P 149 L s h) wt wt) := e170_146
theorem g171_5 : exq sa F N S rt cd171 P Q 5 L st h = (aldW sa st h (fun v s => P 6 L (.int v :: s) h) wt) := e171_5
theorem g171_9 : exq sa F N S rt cd171 P Q 9 L st h = (aldW sa st h (fun v s => P 10 L (.int v :: s) h) wt) := e171_9
theorem g171_11 : exq sa F N S rt cd171 P Q 11 L st h = (ivSW F 136 2 st h (fun r s h' => P 14 L (pu r s) h') wt) := e171_11
theorem g171_14 : exq sa F N S rt cd171 P Q 14 L st h = (tI st fun a s => brW (a = 0) (P 17 L s h) (P 21 L s h) wt wt) := e171_14
theorem g171_18 : exq sa F N S rt cd171 P Q 18 L st h = (tI st fun a s => brW (a = 0) (P 21 L s h) (P 22 L s h) wt wt) := e171_18
theorem g171_26 : exq sa F N S rt cd171 P Q 26 L st h = (aldW sa st h (fun v s => P 27 L (.int v :: s) h) wt) := e171_26
theorem g171_29 : exq sa F N S rt cd171 P Q 29 L st h = (tI st fun b s => tI s fun a s => brW (a = b) (P 32 L s h) (P 43 L s h) wt wt) := e171_29
theorem g171_33 : exq sa F N S rt cd171 P Q 33 L st h = (tR st fun a s => optW (hO h a 7) (fun fs => optW (fs[16]?) (fun v => P 36 L (v :: s) h) wt) wt) := e171_33
theorem g171_37 : exq sa F N S rt cd171 P Q 37 L st h = (aldW sa st h (fun v s => P 38 L (.int v :: s) h) wt) := e171_37
theorem g171_44 : exq sa F N S rt cd171 P Q 44 L st h = (tI st fun b s => tI s fun a s => brW (a = b) (P 47 L s h) (P 51 L s h) wt wt) := e171_44
theorem g171_61 : exq sa F N S rt cd171 P Q 61 L st h = (tI st fun a s => brW (a = 0) (P 70 L s h) (P 64 L s h) wt wt) := e171_61
theorem g171_71 : exq sa F N S rt cd171 P Q 71 L st h = (tI st fun v s => tI s fun i s => tR s fun a s => optW (hI h a) (fun q => ixW i q.1 (fun k => P 72 L s (hS h a (.inl (0, q.1, .inl (upd q.2 k v))))) wt) wt) := e171_71
theorem g171_77 : exq sa F N S rt cd171 P Q 77 L st h = (aldW sa st h (fun v s => P 78 L (.int v :: s) h) wt) := e171_77
theorem g171_83 : exq sa F N S rt cd171 P Q 83 L st h = (aldW sa st h (fun v s => P 84 L (.int v :: s) h) wt) := e171_83
theorem g171_85 : exq sa F N S rt cd171 P Q 85 L st h = (tI st fun b s => tI s fun a s => brW (a = b) (P 88 L s h) (P 92 L s h) wt wt) := e171_85
theorem g171_94 : exq sa F N S rt cd171 P Q 94 L st h = (tI st fun v s => tI s fun i s => tR s fun a s => optW (hI h a) (fun q => ixW i q.1 (fun k => P 95 L s (hS h a (.inl (0, q.1, .inl (upd q.2 k v))))) wt) wt) := e171_94
theorem g172_8 : exq sa F N S rt cd172 P Q 8 L st h = (aldW sa st h (fun v s => P 9 L (.int v :: s) h) wt) := e172_8
theorem g172_9 : exq sa F N S rt cd172 P Q 9 L st h = (tI st fun a s => brW (a ≤ 0) (P 25 L s h) (P 12 L s h) wt wt) := e172_9
theorem g172_15 : exq sa F N S rt cd172 P Q 15 L st h = (ivVW F 169 3 7 st h (fun r s h' => P 18 L (pu r s) h') wt) := e172_15
theorem g172_21 : exq sa F N S rt cd172 P Q 21 L st h = (ivVW F 170 3 7 st h (fun r s h' => P 24 L (pu r s) h') wt) := e172_21
theorem g172_28 : exq sa F N S rt cd172 P Q 28 L st h = (tI st fun b s => tI s fun a s => brW (a = b) (P 104 L s h) (P 31 L s h) wt wt) := e172_28
theorem g172_32 : exq sa F N S rt cd172 P Q 32 L st h = (tR st fun a s => optW (hO h a 7) (fun fs => optW (fs[16]?) (fun v => P 35 L (v :: s) h) wt) wt) := e172_32
theorem g172_39 : exq sa F N S rt cd172 P Q 39 L st h = (aldW sa st h (fun v s => P 40 L (.int v :: s) h) wt) := e172_39
theorem g172_45 : exq sa F N S rt cd172 P Q 45 L st h = (aldW sa st h (fun v s => P 46 L (.int v :: s) h) wt) := e172_45
theorem g172_50 : exq sa F N S rt cd172 P Q 50 L st h = (tI st fun v s => tI s fun i s => tR s fun a s => optW (hI h a) (fun q => ixW i q.1 (fun k => P 51 L s (hS h a (.inl (0, q.1, .inl (upd q.2 k v))))) wt) wt) := e172_50
theorem g172_61 : exq sa F N S rt cd172 P Q 61 L st h = (aldW sa st h (fun v s => P 62 L (.int v :: s) h) wt) := e172_61
theorem g172_64 : exq sa F N S rt cd172 P Q 64 L st h = (tI st fun b s => tI s fun a s => brW (a ≤ b) (P 79 L s h) (P 67 L s h) wt wt) := e172_64
theorem g172_72 : exq sa F N S rt cd172 P Q 72 L st h = (aldW sa st h (fun v s => P 73 L (.int v :: s) h) wt) := e172_72
theorem g172_80 : exq sa F N S rt cd172 P Q 80 L st h = (tI st fun v s => tI s fun i s => tR s fun a s => optW (hI h a) (fun q => ixW i q.1 (fun k => P 81 L s (hS h a (.inl (0, q.1, .inl (upd q.2 k v))))) wt) wt) := e172_80
theorem g172_83 : exq sa F N S rt cd172 P Q 83 L st h = (tR st fun a s => optW (hO h a 7) (fun fs => optW (fs[19]?) (fun v => P 86 L (v :: s) h) wt) wt) := e172_83
theorem g172_89 : exq sa F N S rt cd172 P Q 89 L st h = (tI st fun a s => brW (a = 0) (P 92 L s h) (P 97 L s h) wt wt) := e172_89
theorem g172_101 : exq sa F N S rt cd172 P Q 101 L st h = (pfdW st h 7 19 0 (fun s h' => P 104 L s h') wt) := e172_101
theorem g172_112 : exq sa F N S rt cd172 P Q 112 L st h = (tI st fun b s => tI s fun a s => brW (a = b) (P 119 L s h) (P 115 L s h) wt wt) := e172_112
theorem g172_124 : exq sa F N S rt cd172 P Q 124 L st h = (aldW sa st h (fun v s => P 125 L (.int v :: s) h) wt) := e172_124
theorem g172_127 : exq sa F N S rt cd172 P Q 127 L st h = (tI st fun v s => tI s fun i s => tR s fun a s => optW (hI h a) (fun q => ixW i q.1 (fun k => P 128 L s (hS h a (.inl (0, q.1, .inl (upd q.2 k v))))) wt) wt) := e172_127
theorem g172_138 : exq sa F N S rt cd172 P Q 138 L st h = (aldW sa st h (fun v s => P 139 L (.int v :: s) h) wt) := e172_138
theorem g172_140 : exq sa F N S rt cd172 P Q 140 L st h = (tR st fun a s => optW (hO h a 7) (fun fs => optW (fs[16]?) (fun v => P 143 L (v :: s) h) wt) wt) := e172_140
theorem g172_144 : exq sa F N S rt cd172 P Q 144 L st h = (aldW sa st h (fun v s => P 145 L (.int v :: s) h) wt) := e172_144
theorem g172_145 : exq sa F N S rt cd172 P Q 145 L st h = (tI st fun b s => tI s fun a s => brW (a = b) (P 148 L s h) (P 152 L s h) wt wt) := e172_145
theorem g172_153 : exq sa F N S rt cd172 P Q 153 L st h = (tI st fun v s => tI s fun i s => tR s fun a s => optW (hI h a) (fun q => ixW i q.1 (fun k => P 154 L s (hS h a (.inl (0, q.1, .inl (upd q.2 k v))))) wt) wt) := e172_153
theorem g172_157 : exq sa F N S rt cd172 P Q 157 L st h = (tI st fun b s => tI s fun a s => brW (a = b) (P 164 L s h) (P 160 L s h) wt wt) := e172_157
theorem g173_4 : exq sa F N S rt cd173 P Q 4 L st h = (tR st fun a s => optW (hO h a 7) (fun fs => optW (fs[16]?) (fun v => P 7 L (v :: s) h) wt) wt) := e173_4
theorem g173_8 : exq sa F N S rt cd173 P Q 8 L st h = (aldW sa st h (fun v s => P 9 L (.int v :: s) h) wt) := e173_8
theorem g173_9 : exq sa F N S rt cd173 P Q 9 L st h = (tI st fun b s => tI s fun a s => brW (b ≤ a) (P 24 L s h) (P 12 L s h) wt wt) := e173_9
theorem g173_15 : exq sa F N S rt cd173 P Q 15 L st h = (ivVW F 171 3 7 st h (fun r s h' => P 18 L (pu r s) h') wt) := e173_15
theorem g173_30 : exq sa F N S rt cd173 P Q 30 L st h = (tR st fun a s => optW (hO h a 7) (fun fs => optW (fs[16]?) (fun v => P 33 L (v :: s) h) wt) wt) := e173_30
theorem g173_34 : exq sa F N S rt cd173 P Q 34 L st h = (aldW sa st h (fun v s => P 35 L (.int v :: s) h) wt) := e173_34
theorem g173_35 : exq sa F N S rt cd173 P Q 35 L st h = (tI st fun b s => tI s fun a s => brW (b ≤ a) (P 73 L s h) (P 38 L s h) wt wt) := e173_35
theorem g173_44 : exq sa F N S rt cd173 P Q 44 L st h = (aldW sa st h (fun v s => P 45 L (.int v :: s) h) wt) := e173_44
theorem g173_46 : exq sa F N S rt cd173 P Q 46 L st h = (tI st fun b s => tI s fun a s => brW (a = b) (P 49 L s h) (P 64 L s h) wt wt) := e173_46
theorem g173_52 : exq sa F N S rt cd173 P Q 52 L st h = (ivVW F 172 3 7 st h (fun r s h' => P 55 L (pu r s) h') wt) := e173_52
theorem g173_55 : exq sa F N S rt cd173 P Q 55 L st h = (tI st fun a s => brW (a = 0) (P 64 L s h) (P 58 L s h) wt wt) := e173_55
theorem g173_77 : exq sa F N S rt cd173 P Q 77 L st h = (tR st fun a s => optW (hO h a 7) (fun fs => optW (fs[16]?) (fun v => P 80 L (v :: s) h) wt) wt) := e173_77
theorem g173_81 : exq sa F N S rt cd173 P Q 81 L st h = (aldW sa st h (fun v s => P 82 L (.int v :: s) h) wt) := e173_81
theorem g173_82 : exq sa F N S rt cd173 P Q 82 L st h = (tI st fun b s => tI s fun a s => brW (b ≤ a) (P 155 L s h) (P 85 L s h) wt wt) := e173_82
theorem g173_87 : exq sa F N S rt cd173 P Q 87 L st h = (aldW sa st h (fun v s => P 88 L (.int v :: s) h) wt) := e173_87
theorem g173_91 : exq sa F N S rt cd173 P Q 91 L st h = (tI st fun b s => tI s fun a s => brW (a = b) (P 94 L s h) (P 155 L s h) wt wt) := e173_91
theorem g173_99 : exq sa F N S rt cd173 P Q 99 L st h = (aldW sa st h (fun v s => P 100 L (.int v :: s) h) wt) := e173_99
theorem g173_101 : exq sa F N S rt cd173 P Q 101 L st h = (tI st fun b s => tI s fun a s => brW (a = b) (P 127 L s h) (P 104 L s h) wt wt) := e173_101
theorem g173_106 : exq sa F N S rt cd173 P Q 106 L st h = (ivSW F 136 2 st h (fun r s h' => P 109 L (pu r s) h') wt) := e173_106
theorem g173_109 : exq sa F N S rt cd173 P Q 109 L st h = (tI st fun a s => brW (a = 0) (P 112 L s h) (P 127 L s h) wt wt) := e173_109
theorem g173_117 : exq sa F N S rt cd173 P Q 117 L st h = (aldW sa st h (fun v s => P 118 L (.int v :: s) h) wt) := e173_117
theorem g173_120 : exq sa F N S rt cd173 P Q 120 L st h = (tI st fun b s => tI s fun a s => brW (b ≤ a) (P 127 L s h) (P 123 L s h) wt wt) := e173_120
theorem g173_136 : exq sa F N S rt cd173 P Q 136 L st h = (aldW sa st h (fun v s => P 137 L (.int v :: s) h) wt) := e173_136
theorem g173_139 : exq sa F N S rt cd173 P Q 139 L st h = (tI st fun a s => brW (a = 0) (P 146 L s h) (P 142 L s h) wt wt) := e173_139
theorem g173_148 : exq sa F N S rt cd173 P Q 148 L st h = (tI st fun v s => tI s fun i s => tR s fun a s => optW (hI h a) (fun q => ixW i q.1 (fun k => P 149 L s (hS h a (.inl (0, q.1, .inl (upd q.2 k v))))) wt) wt) := e173_148
theorem g173_158 : exq sa F N S rt cd173 P Q 158 L st h = (aldW sa st h (fun v s => P 159 L (.int v :: s) h) wt) := e173_158
theorem g173_161 : exq sa F N S rt cd173 P Q 161 L st h = (tI st fun v s => tI s fun i s => tR s fun a s => optW (hI h a) (fun q => ixW i q.1 (fun k => P 162 L s (hS h a (.inl (0, q.1, .inl (upd q.2 k v))))) wt) wt) := e173_161
theorem g174_6 : exq sa F N S rt cd174 P Q 6 L st h = (tR st fun a s => optW (hO h a 7) (fun fs => optW (fs[16]?) (fun v => P 9 L (v :: s) h) wt) wt) := e174_6
theorem g174_10 : exq sa F N S rt cd174 P Q 10 L st h = (aldW sa st h (fun v s => P 11 L (.int v :: s) h) wt) := e174_10
theorem g174_11 : exq sa F N S rt cd174 P Q 11 L st h = (tI st fun b s => tI s fun a s => brW (b ≤ a) (P 44 L s h) (P 14 L s h) wt wt) := e174_11
theorem g174_17 : exq sa F N S rt cd174 P Q 17 L st h = (ivSW F 136 2 st h (fun r s h' => P 20 L (pu r s) h') wt) := e174_17
theorem g174_20 : exq sa F N S rt cd174 P Q 20 L st h = (tI st fun a s => brW (a = 0) (P 35 L s h) (P 23 L s h) wt wt) := e174_20
theorem g174_24 : exq sa F N S rt cd174 P Q 24 L st h = (tR st fun a s => optW (hO h a 7) (fun fs => optW (fs[16]?) (fun v => P 27 L (v :: s) h) wt) wt) := e174_24
theorem g174_31 : exq sa F N S rt cd174 P Q 31 L st h = (aldW sa st h (fun v s => P 32 L (.int v :: s) h) wt) := e174_31
theorem g175_8 : exq sa F N S rt cd175 P Q 8 L st h = (tR st fun a s => optW (hO h a 7) (fun fs => optW (fs[16]?) (fun v => P 11 L (v :: s) h) wt) wt) := e175_8
theorem g175_12 : exq sa F N S rt cd175 P Q 12 L st h = (aldW sa st h (fun v s => P 13 L (.int v :: s) h) wt) := e175_12
theorem g175_13 : exq sa F N S rt cd175 P Q 13 L st h = (tI st fun b s => tI s fun a s => brW (b ≤ a) (P 44 L s h) (P 16 L s h) wt wt) := e175_13
theorem g175_23 : exq sa F N S rt cd175 P Q 23 L st h = (aldW sa st h (fun v s => P 24 L (.int v :: s) h) wt) := e175_23
theorem g175_25 : exq sa F N S rt cd175 P Q 25 L st h = (tI st fun b s => tI s fun a s => brW (a = b) (P 28 L s h) (P 35 L s h) wt wt) := e175_25
theorem g176_6 : exq sa F N S rt cd176 P Q 6 L st h = (tI st fun v s => tI s fun i s => tR s fun a s => optW (hI h a) (fun q => ixW i q.1 (fun k => P 7 L s (hS h a (.inl (0, q.1, .inl (upd q.2 k v))))) wt) wt) := e176_6
theorem g176_13 : exq sa F N S rt cd176 P Q 13 L st h = (tI st fun v s => tI s fun i s => tR s fun a s => optW (hI h a) (fun q => ixW i q.1 (fun k => P 14 L s (hS h a (.inl (0, q.1, .inl (upd q.2 k v))))) wt) wt) := e176_13
theorem g176_20 : exq sa F N S rt cd176 P Q 20 L st h = (tI st fun v s => tI s fun i s => tR s fun a s => optW (hI h a) (fun q => ixW i q.1 (fun k => P 21 L s (hS h a (.inl (0, q.1, .inl (upd q.2 k v))))) wt) wt) := e176_20
theorem g177_6 : exq sa F N S rt cd177 P Q 6 L st h = (tI st fun v s => tI s fun i s => tR s fun a s => optW (hI h a) (fun q => ixW i q.1 (fun k => P 7 L s (hS h a (.inl (0, q.1, .inl (upd q.2 k v))))) wt) wt) := e177_6
theorem g177_13 : exq sa F N S rt cd177 P Q 13 L st h = (tI st fun v s => tI s fun i s => tR s fun a s => optW (hI h a) (fun q => ixW i q.1 (fun k => P 14 L s (hS h a (.inl (0, q.1, .inl (upd q.2 k v))))) wt) wt) := e177_13
theorem g177_20 : exq sa F N S rt cd177 P Q 20 L st h = (tI st fun v s => tI s fun i s => tR s fun a s => optW (hI h a) (fun q => ixW i q.1 (fun k => P 21 L s (hS h a (.inl (0, q.1, .inl (upd q.2 k v))))) wt) wt) := e177_20
theorem g178_5 : exq sa F N S rt cd178 P Q 5 L st h = (tI st fun b s => tI s fun a s => brW (b ≤ a) (P 34 L s h) (P 8 L s h) wt wt) := e178_5
theorem g178_9 : exq sa F N S rt cd178 P Q 9 L st h = (tR st fun a s => optW (hO h a 7) (fun fs => optW (fs[22]?) (fun v => P 12 L (v :: s) h) wt) wt) := e178_9
theorem g178_15 : exq sa F N S rt cd178 P Q 15 L st h = (tR st fun a s => optW (hO h a 7) (fun fs => optW (fs[21]?) (fun v => P 18 L (v :: s) h) wt) wt) := e178_15
theorem g178_22 : exq sa F N S rt cd178 P Q 22 L st h = (tR st fun a s => optW (hO h a 7) (fun fs => optW (fs[17]?) (fun v => P 25 L (v :: s) h) wt) wt) := e178_22
theorem g178_26 : exq sa F N S rt cd178 P Q 26 L st h = (aldW sa st h (fun v s => P 27 L (.int v :: s) h) wt) := e178_26
theorem g178_27 : exq sa F N S rt cd178 P Q 27 L st h = (tI st fun v s => tI s fun i s => tR s fun a s => optW (hI h a) (fun q => ixW i q.1 (fun k => P 28 L s (hS h a (.inl (0, q.1, .inl (upd q.2 k v))))) wt) wt) := e178_27
theorem g178_36 : exq sa F N S rt cd178 P Q 36 L st h = (tR st fun a s => optW (hO h a 7) (fun fs => optW (fs[21]?) (fun v => P 39 L (v :: s) h) wt) wt) := e178_36
theorem g178_44 : exq sa F N S rt cd178 P Q 44 L st h = (pfdW st h 7 21 0 (fun s h' => P 47 L s h') wt) := e178_44
theorem g178_49 : exq sa F N S rt cd178 P Q 49 L st h = (tR st fun a s => optW (hO h a 7) (fun fs => optW (fs[20]?) (fun v => P 52 L (v :: s) h) wt) wt) := e178_49
theorem g178_53 : exq sa F N S rt cd178 P Q 53 L st h = (tR st fun a s => optW (hO h a 7) (fun fs => optW (fs[20]?) (fun v => P 56 L (v :: s) h) wt) wt) := e178_53
theorem g178_58 : exq sa F N S rt cd178 P Q 58 L st h = (tI st fun b s => tI s fun a s => brW (b ≤ a) (P 65 L s h) (P 61 L s h) wt wt) := e178_58
theorem g178_67 : exq sa F N S rt cd178 P Q 67 L st h = (pfdW st h 7 20 0 (fun s h' => P 70 L s h') wt) := e178_67
theorem g179_1 : exq sa F N S rt cd179 P Q 1 L st h = (tR st fun a s => optW (hO h a 7) (fun fs => optW (fs[20]?) (fun v => P 4 L (v :: s) h) wt) wt) := e179_1
theorem g179_4 : exq sa F N S rt cd179 P Q 4 L st h = (tI st fun a s => brW (a = 0) (P 7 L s h) (P 10 L s h) wt wt) := e179_4
theorem g179_12 : exq sa F N S rt cd179 P Q 12 L st h = (tR st fun a s => optW (hO h a 7) (fun fs => optW (fs[21]?) (fun v => P 15 L (v :: s) h) wt) wt) := e179_12
theorem g179_23 : exq sa F N S rt cd179 P Q 23 L st h = (pfdW st h 7 21 0 (fun s h' => P 26 L s h') wt) := e179_23
theorem g179_28 : exq sa F N S rt cd179 P Q 28 L st h = (tR st fun a s => optW (hO h a 7) (fun fs => optW (fs[20]?) (fun v => P 31 L (v :: s) h) wt) wt) := e179_28
theorem g179_33 : exq sa F N S rt cd179 P Q 33 L st h = (pfdW st h 7 20 0 (fun s h' => P 36 L s h') wt) := e179_33
theorem g179_41 : exq sa F N S rt cd179 P Q 41 L st h = (tI st fun b s => tI s fun a s => brW (b ≤ a) (P 70 L s h) (P 44 L s h) wt wt) := e179_41
theorem g179_45 : exq sa F N S rt cd179 P Q 45 L st h = (tR st fun a s => optW (hO h a 7) (fun fs => optW (fs[17]?) (fun v => P 48 L (v :: s) h) wt) wt) := e179_45
theorem g179_50 : exq sa F N S rt cd179 P Q 50 L st h = (tR st fun a s => optW (hO h a 7) (fun fs => optW (fs[22]?) (fun v => P 53 L (v :: s) h) wt) wt) := e179_50
theorem g179_56 : exq sa F N S rt cd179 P Q 56 L st h = (tR st fun a s => optW (hO h a 7) (fun fs => optW (fs[21]?) (fun v => P 59 L (v :: s) h) wt) wt) := e179_56
theorem g179_62 : exq sa F N S rt cd179 P Q 62 L st h = (aldW sa st h (fun v s => P 63 L (.int v :: s) h) wt) := e179_62
theorem g179_63 : exq sa F N S rt cd179 P Q 63 L st h = (tI st fun v s => tI s fun i s => tR s fun a s => optW (hI h a) (fun q => ixW i q.1 (fun k => P 64 L s (hS h a (.inl (0, q.1, .inl (upd q.2 k v))))) wt) wt) := e179_63
theorem g179_71 : exq sa F N S rt cd179 P Q 71 L st h = (tR st fun a s => optW (hO h a 7) (fun fs => optW (fs[20]?) (fun v => P 74 L (v :: s) h) wt) wt) := e179_71
theorem g180_1 : exq sa F N S rt cd180 P Q 1 L st h = (tR st fun a s => optW (hO h a 7) (fun fs => optW (fs[15]?) (fun v => P 4 L (v :: s) h) wt) wt) := e180_1
theorem g180_4 : exq sa F N S rt cd180 P Q 4 L st h = (tI st fun a s => brW (a = 0) (P 7 L s h) (P 12 L s h) wt wt) := e180_4
theorem g180_13 : exq sa F N S rt cd180 P Q 13 L st h = (tI st fun a s => brW (a = 0) (P 20 L s h) (P 16 L s h) wt wt) := e180_13
theorem g181_5 : exq sa F N S rt cd181 P Q 5 L st h = (ivSW F 135 3 st h (fun r s h' => P 8 L (pu r s) h') wt) := e181_5
theorem g181_8 : exq sa F N S rt cd181 P Q 8 L st h = (ivVW F 180 2 7 st h (fun r s h' => P 11 L (pu r s) h') wt) := e181_8
theorem g181_13 : exq sa F N S rt cd181 P Q 13 L st h = (tI st fun a s => brW (0 ≤ a) (P 18 L s h) (P 16 L s h) wt wt) := e181_13
theorem g181_19 : exq sa F N S rt cd181 P Q 19 L st h = (tR st fun a s => optW (hO h a 7) (fun fs => optW (fs[17]?) (fun v => P 22 L (v :: s) h) wt) wt) := e181_19
theorem g181_23 : exq sa F N S rt cd181 P Q 23 L st h = (aldW sa st h (fun v s => P 24 L (.int v :: s) h) wt) := e181_23
theorem g181_29 : exq sa F N S rt cd181 P Q 29 L st h = (tI st fun b s => tI s fun a s => brW (a ≤ b) (P 35 L s h) (P 32 L s h) wt wt) := e181_29
theorem g181_39 : exq sa F N S rt cd181 P Q 39 L st h = (tI st fun b s => tI s fun a s => brW (b ≤ a) (P 60 L s h) (P 42 L s h) wt wt) := e181_39
theorem g181_43 : exq sa F N S rt cd181 P Q 43 L st h = (ivVW F 178 1 7 st h (fun r s h' => P 46 L (pu r s) h') wt) := e181_43
theorem g181_48 : exq sa F N S rt cd181 P Q 48 L st h = (tR st fun a s => optW (hO h a 7) (fun fs => optW (fs[17]?) (fun v => P 51 L (v :: s) h) wt) wt) := e181_48
theorem g181_51 : exq sa F N S rt cd181 P Q 51 L st h = (ivVW F 173 2 7 st h (fun r s h' => P 54 L (pu r s) h') wt) := e181_51
theorem g181_62 : exq sa F N S rt cd181 P Q 62 L st h = (tR st fun a s => optW (hO h a 7) (fun fs => optW (fs[17]?) (fun v => P 65 L (v :: s) h) wt) wt) := e181_62
theorem g181_66 : exq sa F N S rt cd181 P Q 66 L st h = (aldW sa st h (fun v s => P 67 L (.int v :: s) h) wt) := e181_66
theorem g181_67 : exq sa F N S rt cd181 P Q 67 L st h = (ivVW F 174 2 7 st h (fun r s h' => P 70 L (pu r s) h') wt) := e181_67
theorem g182_2 : exq sa F N S rt cd182 P Q 2 L st h = (ivVW F 162 2 7 st h (fun r s h' => P 5 L (pu r s) h') wt) := e182_2
theorem g182_5 : exq sa F N S rt cd182 P Q 5 L st h = (tI st fun a s => brW (a = 0) (P 8 L s h) (P 11 L s h) wt wt) := e182_5
theorem g182_12 : exq sa F N S rt cd182 P Q 12 L st h = (tR st fun a s => optW (hO h a 7) (fun fs => optW (fs[17]?) (fun v => P 15 L (v :: s) h) wt) wt) := e182_12
theorem g182_19 : exq sa F N S rt cd182 P Q 19 L st h = (aldW sa st h (fun v s => P 20 L (.int v :: s) h) wt) := e182_19
theorem g182_20 : exq sa F N S rt cd182 P Q 20 L st h = (tI st fun a s => brW (a = 0) (P 26 L s h) (P 23 L s h) wt wt) := e182_20
theorem g182_27 : exq sa F N S rt cd182 P Q 27 L st h = (ivVW F 178 1 7 st h (fun r s h' => P 30 L (pu r s) h') wt) := e182_27
theorem g182_32 : exq sa F N S rt cd182 P Q 32 L st h = (tR st fun a s => optW (hO h a 7) (fun fs => optW (fs[17]?) (fun v => P 35 L (v :: s) h) wt) wt) := e182_32
theorem g182_36 : exq sa F N S rt cd182 P Q 36 L st h = (ivVW F 176 3 7 st h (fun r s h' => P 39 L (pu r s) h') wt) := e182_36
theorem g182_41 : exq sa F N S rt cd182 P Q 41 L st h = (tR st fun a s => optW (hO h a 7) (fun fs => optW (fs[17]?) (fun v => P 44 L (v :: s) h) wt) wt) := e182_41
theorem g182_45 : exq sa F N S rt cd182 P Q 45 L st h = (ivVW F 175 3 7 st h (fun r s h' => P 48 L (pu r s) h') wt) := e182_45
theorem g183_2 : exq sa F N S rt cd183 P Q 2 L st h = (ivVW F 162 2 7 st h (fun r s h' => P 5 L (pu r s) h') wt) := e183_2
theorem g183_5 : exq sa F N S rt cd183 P Q 5 L st h = (tI st fun a s => brW (a = 0) (P 8 L s h) (P 11 L s h) wt wt) := e183_5
theorem g183_12 : exq sa F N S rt cd183 P Q 12 L st h = (tR st fun a s => optW (hO h a 7) (fun fs => optW (fs[17]?) (fun v => P 15 L (v :: s) h) wt) wt) := e183_12
theorem g183_19 : exq sa F N S rt cd183 P Q 19 L st h = (aldW sa st h (fun v s => P 20 L (.int v :: s) h) wt) := e183_19
theorem g183_21 : exq sa F N S rt cd183 P Q 21 L st h = (tI st fun b s => tI s fun a s => brW (a = b) (P 27 L s h) (P 24 L s h) wt wt) := e183_21
theorem g183_28 : exq sa F N S rt cd183 P Q 28 L st h = (ivVW F 178 1 7 st h (fun r s h' => P 31 L (pu r s) h') wt) := e183_28
theorem g183_33 : exq sa F N S rt cd183 P Q 33 L st h = (tR st fun a s => optW (hO h a 7) (fun fs => optW (fs[17]?) (fun v => P 36 L (v :: s) h) wt) wt) := e183_33
theorem g183_37 : exq sa F N S rt cd183 P Q 37 L st h = (ivVW F 177 3 7 st h (fun r s h' => P 40 L (pu r s) h') wt) := e183_37
theorem g183_42 : exq sa F N S rt cd183 P Q 42 L st h = (tR st fun a s => optW (hO h a 7) (fun fs => optW (fs[17]?) (fun v => P 45 L (v :: s) h) wt) wt) := e183_42
theorem g183_46 : exq sa F N S rt cd183 P Q 46 L st h = (ivVW F 175 3 7 st h (fun r s h' => P 49 L (pu r s) h') wt) := e183_46
theorem g184_2 : exq sa F N S rt cd184 P Q 2 L st h = (ivVW F 162 2 7 st h (fun r s h' => P 5 L (pu r s) h') wt) := e184_2
theorem g184_5 : exq sa F N S rt cd184 P Q 5 L st h = (tI st fun a s => brW (a = 0) (P 18 L s h) (P 8 L s h) wt wt) := e184_5
theorem g184_12 : exq sa F N S rt cd184 P Q 12 L st h = (ivSW F 135 3 st h (fun r s h' => P 15 L (pu r s) h') wt) := e184_12
theorem g184_15 : exq sa F N S rt cd184 P Q 15 L st h = (tI st fun a s => brW (a = 0) (P 18 L s h) (P 21 L s h) wt wt) := e184_15
theorem g184_22 : exq sa F N S rt cd184 P Q 22 L st h = (tR st fun a s => optW (hO h a 7) (fun fs => optW (fs[17]?) (fun v => P 25 L (v :: s) h) wt) wt) := e184_22
theorem g184_29 : exq sa F N S rt cd184 P Q 29 L st h = (aldW sa st h (fun v s => P 30 L (.int v :: s) h) wt) := e184_29
theorem g184_31 : exq sa F N S rt cd184 P Q 31 L st h = (tI st fun b s => tI s fun a s => brW (a = b) (P 34 L s h) (P 37 L s h) wt wt) := e184_31
theorem g184_38 : exq sa F N S rt cd184 P Q 38 L st h = (ivVW F 178 1 7 st h (fun r s h' => P 41 L (pu r s) h') wt) := e184_38
theorem g184_42 : exq sa F N S rt cd184 P Q 42 L st h = (tR st fun a s => optW (hO h a 7) (fun fs => optW (fs[17]?) (fun v => P 45 L (v :: s) h) wt) wt) := e184_42
theorem g184_49 : exq sa F N S rt cd184 P Q 49 L st h = (aldW sa st h (fun v s => P 50 L (.int v :: s) h) wt) := e184_49
theorem g184_52 : exq sa F N S rt cd184 P Q 52 L st h = (tR st fun a s => optW (hO h a 7) (fun fs => optW (fs[17]?) (fun v => P 55 L (v :: s) h) wt) wt) := e184_52
theorem g184_60 : exq sa F N S rt cd184 P Q 60 L st h = (tI st fun v s => tI s fun i s => tR s fun a s => optW (hI h a) (fun q => ixW i q.1 (fun k => P 61 L s (hS h a (.inl (0, q.1, .inl (upd q.2 k v))))) wt) wt) := e184_60
theorem g185_2 : exq sa F N S rt cd185 P Q 2 L st h = (ivVW F 163 2 7 st h (fun r s h' => P 5 L (pu r s) h') wt) := e185_2
theorem g185_5 : exq sa F N S rt cd185 P Q 5 L st h = (tI st fun a s => brW (a = 0) (P 16 L s h) (P 8 L s h) wt wt) := e185_5
theorem g185_10 : exq sa F N S rt cd185 P Q 10 L st h = (ivVW F 164 2 7 st h (fun r s h' => P 13 L (pu r s) h') wt) := e185_10
theorem g185_13 : exq sa F N S rt cd185 P Q 13 L st h = (tI st fun a s => brW (a = 0) (P 16 L s h) (P 19 L s h) wt wt) := e185_13
theorem g185_20 : exq sa F N S rt cd185 P Q 20 L st h = (tR st fun a s => optW (hO h a 7) (fun fs => optW (fs[17]?) (fun v => P 23 L (v :: s) h) wt) wt) := e185_20
theorem g185_26 : exq sa F N S rt cd185 P Q 26 L st h = (aldW sa st h (fun v s => P 27 L (.int v :: s) h) wt) := e185_26
theorem g185_30 : exq sa F N S rt cd185 P Q 30 L st h = (tI st fun b s => tI s fun a s => brW (a = b) (P 46 L s h) (P 33 L s h) wt wt) := e185_30
theorem g185_34 : exq sa F N S rt cd185 P Q 34 L st h = (tR st fun a s => optW (hO h a 7) (fun fs => optW (fs[17]?) (fun v => P 37 L (v :: s) h) wt) wt) := e185_34
theorem g185_38 : exq sa F N S rt cd185 P Q 38 L st h = (aldW sa st h (fun v s => P 39 L (.int v :: s) h) wt) := e185_38
theorem g185_40 : exq sa F N S rt cd185 P Q 40 L st h = (ivSW F 136 2 st h (fun r s h' => P 43 L (pu r s) h') wt) := e185_40
theorem g185_43 : exq sa F N S rt cd185 P Q 43 L st h = (tI st fun a s => brW (a = 0) (P 49 L s h) (P 46 L s h) wt wt) := e185_43
theorem g185_50 : exq sa F N S rt cd185 P Q 50 L st h = (ivVW F 178 1 7 st h (fun r s h' => P 53 L (pu r s) h') wt) := e185_50
theorem g185_54 : exq sa F N S rt cd185 P Q 54 L st h = (tR st fun a s => optW (hO h a 7) (fun fs => optW (fs[17]?) (fun v => P 57 L (v :: s) h) wt) wt) := e185_54
theorem g185_61 : exq sa F N S rt cd185 P Q 61 L st h = (tI st fun v s => tI s fun i s => tR s fun a s => optW (hI h a) (fun q => ixW i q.1 (fun k => P 62 L s (hS h a (.inl (0, q.1, .inl (upd q.2 k v))))) wt) wt) := e185_61
theorem g186_2 : exq sa F N S rt cd186 P Q 2 L st h = (ivVW F 162 2 7 st h (fun r s h' => P 5 L (pu r s) h') wt) := e186_2
theorem g186_5 : exq sa F N S rt cd186 P Q 5 L st h = (tI st fun a s => brW (a = 0) (P 8 L s h) (P 11 L s h) wt wt) := e186_5
theorem g186_53 : exq sa F N S rt cd186 P Q 53 L st h = (tR st fun a s => optW (hO h a 7) (fun fs => optW (fs[17]?) (fun v => P 56 L (v :: s) h) wt) wt) := e186_53
theorem g186_60 : exq sa F N S rt cd186 P Q 60 L st h = (aldW sa st h (fun v s => P 61 L (.int v :: s) h) wt) := e186_60
theorem g186_63 : exq sa F N S rt cd186 P Q 63 L st h = (tR st fun a s => optW (hO h a 7) (fun fs => optW (fs[17]?) (fun v => P 66 L (v :: s) h) wt) wt) := e186_63
theorem g186_70 : exq sa F N S rt cd186 P Q 70 L st h = (aldW sa st h (fun v s => P 71 L (.int v :: s) h) wt) := e186_70
theorem g186_73 : exq sa F N S rt cd186 P Q 73 L st h = (tR st fun a s => optW (hO h a 7) (fun fs => optW (fs[17]?) (fun v => P 76 L (v :: s) h) wt) wt) := e186_73
theorem g186_80 : exq sa F N S rt cd186 P Q 80 L st h = (aldW sa st h (fun v s => P 81 L (.int v :: s) h) wt) := e186_80
theorem g186_83 : exq sa F N S rt cd186 P Q 83 L st h = (tR st fun a s => optW (hO h a 7) (fun fs => optW (fs[17]?) (fun v => P 86 L (v :: s) h) wt) wt) := e186_83
theorem g186_90 : exq sa F N S rt cd186 P Q 90 L st h = (aldW sa st h (fun v s => P 91 L (.int v :: s) h) wt) := e186_90
theorem g186_92 : exq sa F N S rt cd186 P Q 92 L st h = (tI st fun b s => tI s fun a s => brW (a = b) (P 95 L s h) (P 107 L s h) wt wt) := e186_92
theorem g186_96 : exq sa F N S rt cd186 P Q 96 L st h = (tR st fun a s => optW (hO h a 7) (fun fs => optW (fs[17]?) (fun v => P 99 L (v :: s) h) wt) wt) := e186_96
theorem g186_103 : exq sa F N S rt cd186 P Q 103 L st h = (aldW sa st h (fun v s => P 104 L (.int v :: s) h) wt) := e186_103
theorem g186_111 : exq sa F N S rt cd186 P Q 111 L st h = (tR st fun a s => optW (hO h a 7) (fun fs => optW (fs[17]?) (fun v => P 114 L (v :: s) h) wt) wt) := e186_111
theorem g186_115 : exq sa F N S rt cd186 P Q 115 L st h = (ivVW F 167 3 7 st h (fun r s h' => P 118 L (pu r s) h') wt) := e186_115
theorem g186_120 : exq sa F N S rt cd186 P Q 120 L st h = (tR st fun a s => optW (hO h a 7) (fun fs => optW (fs[17]?) (fun v => P 123 L (v :: s) h) wt) wt) := e186_120
theorem g186_127 : exq sa F N S rt cd186 P Q 127 L st h = (aldW sa st h (fun v s => P 128 L (.int v :: s) h) wt) := e186_127
theorem g186_129 : exq sa F N S rt cd186 P Q 129 L st h = (tI st fun b s => tI s fun a s => brW (a = b) (P 132 L s h) (P 156 L s h) wt wt) := e186_129
theorem g186_133 : exq sa F N S rt cd186 P Q 133 L st h = (tR st fun a s => optW (hO h a 7) (fun fs => optW (fs[17]?) (fun v => P 136 L (v :: s) h) wt) wt) := e186_133
theorem g186_140 : exq sa F N S rt cd186 P Q 140 L st h = (aldW sa st h (fun v s => P 141 L (.int v :: s) h) wt) := e186_140
theorem g186_141 : exq sa F N S rt cd186 P Q 141 L st h = (tI st fun a s => brW (a ≤ 0) (P 156 L s h) (P 144 L s h) wt wt) := e186_141
theorem g186_146 : exq sa F N S rt cd186 P Q 146 L st h = (tR st fun a s => optW (hO h a 7) (fun fs => optW (fs[17]?) (fun v => P 149 L (v :: s) h) wt) wt) := e186_146
theorem g186_150 : exq sa F N S rt cd186 P Q 150 L st h = (ivVW F 170 3 7 st h (fun r s h' => P 153 L (pu r s) h') wt) := e186_150
theorem g187_2 : exq sa F N S rt cd187 P Q 2 L st h = (ivVW F 163 2 7 st h (fun r s h' => P 5 L (pu r s) h') wt) := e187_2
theorem g187_5 : exq sa F N S rt cd187 P Q 5 L st h = (tI st fun a s => brW (a = 0) (P 17 L s h) (P 8 L s h) wt wt) := e187_5
theorem g187_11 : exq sa F N S rt cd187 P Q 11 L st h = (ivSW F 135 3 st h (fun r s h' => P 14 L (pu r s) h') wt) := e187_11
theorem g187_14 : exq sa F N S rt cd187 P Q 14 L st h = (tI st fun a s => brW (a = 0) (P 17 L s h) (P 22 L s h) wt wt) := e187_14
theorem g187_23 : exq sa F N S rt cd187 P Q 23 L st h = (tI st fun a s => brW (a = 0) (P 26 L s h) (P 37 L s h) wt wt) := e187_23
theorem g187_27 : exq sa F N S rt cd187 P Q 27 L st h = (tR st fun a s => optW (hO h a 7) (fun fs => optW (fs[17]?) (fun v => P 30 L (v :: s) h) wt) wt) := e187_27
theorem g187_33 : exq sa F N S rt cd187 P Q 33 L st h = (aldW sa st h (fun v s => P 34 L (.int v :: s) h) wt) := e187_33
theorem g187_39 : exq sa F N S rt cd187 P Q 39 L st h = (tI st fun b s => tI s fun a s => brW (a = b) (P 42 L s h) (P 54 L s h) wt wt) := e187_39
theorem g187_43 : exq sa F N S rt cd187 P Q 43 L st h = (tR st fun a s => optW (hO h a 7) (fun fs => optW (fs[16]?) (fun v => P 46 L (v :: s) h) wt) wt) := e187_43
theorem g187_50 : exq sa F N S rt cd187 P Q 50 L st h = (aldW sa st h (fun v s => P 51 L (.int v :: s) h) wt) := e187_50
theorem g187_56 : exq sa F N S rt cd187 P Q 56 L st h = (tI st fun b s => tI s fun a s => brW (a = b) (P 59 L s h) (P 71 L s h) wt wt) := e187_56
theorem g187_60 : exq sa F N S rt cd187 P Q 60 L st h = (tR st fun a s => optW (hO h a 7) (fun fs => optW (fs[17]?) (fun v => P 63 L (v :: s) h) wt) wt) := e187_60
theorem g187_67 : exq sa F N S rt cd187 P Q 67 L st h = (aldW sa st h (fun v s => P 68 L (.int v :: s) h) wt) := e187_67
theorem g187_72 : exq sa F N S rt cd187 P Q 72 L st h = (tR st fun a s => optW (hO h a 7) (fun fs => optW (fs[17]?) (fun v => P 75 L (v :: s) h) wt) wt) := e187_72
theorem g187_76 : exq sa F N S rt cd187 P Q 76 L st h = (aldW sa st h (fun v s => P 77 L (.int v :: s) h) wt) := e187_76
theorem g188_4 : exq sa F N S rt cd188 P Q 4 L st h = (ivSW F 135 3 st h (fun r s h' => P 7 L (pu r s) h') wt) := e188_4
theorem g188_7 : exq sa F N S rt cd188 P Q 7 L st h = (ivVW F 180 2 7 st h (fun r s h' => P 10 L (pu r s) h') wt) := e188_7
theorem g188_12 : exq sa F N S rt cd188 P Q 12 L st h = (tI st fun a s => brW (0 ≤ a) (P 17 L s h) (P 15 L s h) wt wt) := e188_12
theorem g188_18 : exq sa F N S rt cd188 P Q 18 L st h = (tI st fun a s => brW (a = 0) (P 21 L s h) (P 33 L s h) wt wt) := e188_18
theorem g188_23 : exq sa F N S rt cd188 P Q 23 L st h = (tR st fun a s => optW (hO h a 7) (fun fs => optW (fs[17]?) (fun v => P 26 L (v :: s) h) wt) wt) := e188_23
theorem g188_27 : exq sa F N S rt cd188 P Q 27 L st h = (ivVW F 175 3 7 st h (fun r s h' => P 30 L (pu r s) h') wt) := e188_27
theorem g188_35 : exq sa F N S rt cd188 P Q 35 L st h = (tI st fun b s => tI s fun a s => brW (a = b) (P 38 L s h) (P 50 L s h) wt wt) := e188_35
theorem g188_40 : exq sa F N S rt cd188 P Q 40 L st h = (tR st fun a s => optW (hO h a 7) (fun fs => optW (fs[17]?) (fun v => P 43 L (v :: s) h) wt) wt) := e188_40
theorem g188_44 : exq sa F N S rt cd188 P Q 44 L st h = (ivVW F 175 3 7 st h (fun r s h' => P 47 L (pu r s) h') wt) := e188_44
theorem g188_52 : exq sa F N S rt cd188 P Q 52 L st h = (tI st fun b s => tI s fun a s => brW (a = b) (P 55 L s h) (P 64 L s h) wt wt) := e188_52
theorem g188_56 : exq sa F N S rt cd188 P Q 56 L st h = (tR st fun a s => optW (hO h a 7) (fun fs => optW (fs[17]?) (fun v => P 59 L (v :: s) h) wt) wt) := e188_56
theorem g188_60 : exq sa F N S rt cd188 P Q 60 L st h = (aldW sa st h (fun v s => P 61 L (.int v :: s) h) wt) := e188_60
theorem g188_66 : exq sa F N S rt cd188 P Q 66 L st h = (tI st fun b s => tI s fun a s => brW (a = b) (P 69 L s h) (P 82 L s h) wt wt) := e188_66
theorem g188_71 : exq sa F N S rt cd188 P Q 71 L st h = (tR st fun a s => optW (hO h a 7) (fun fs => optW (fs[17]?) (fun v => P 74 L (v :: s) h) wt) wt) := e188_71
theorem g188_75 : exq sa F N S rt cd188 P Q 75 L st h = (aldW sa st h (fun v s => P 76 L (.int v :: s) h) wt) := e188_75
theorem g188_76 : exq sa F N S rt cd188 P Q 76 L st h = (ivVW F 174 2 7 st h (fun r s h' => P 79 L (pu r s) h') wt) := e188_76
theorem g188_84 : exq sa F N S rt cd188 P Q 84 L st h = (tI st fun b s => tI s fun a s => brW (a = b) (P 87 L s h) (P 96 L s h) wt wt) := e188_84
theorem g188_88 : exq sa F N S rt cd188 P Q 88 L st h = (tR st fun a s => optW (hO h a 7) (fun fs => optW (fs[16]?) (fun v => P 91 L (v :: s) h) wt) wt) := e188_88
theorem g188_92 : exq sa F N S rt cd188 P Q 92 L st h = (aldW sa st h (fun v s => P 93 L (.int v :: s) h) wt) := e188_92
theorem g188_97 : exq sa F N S rt cd188 P Q 97 L st h = (tR st fun a s => optW (hO h a 7) (fun fs => optW (fs[16]?) (fun v => P 100 L (v :: s) h) wt) wt) := e188_97
theorem g188_101 : exq sa F N S rt cd188 P Q 101 L st h = (aldW sa st h (fun v s => P 102 L (.int v :: s) h) wt) := e188_101
theorem g189_5 : exq sa F N S rt cd189 P Q 5 L st h = (tI st fun b s => tI s fun a s => brW (b ≤ a) (P 26 L s h) (P 8 L s h) wt wt) := e189_5
theorem g189_9 : exq sa F N S rt cd189 P Q 9 L st h = (tR st fun a s => optW (hO h a 7) (fun fs => optW (fs[18]?) (fun v => P 12 L (v :: s) h) wt) wt) := e189_9
theorem g189_14 : exq sa F N S rt cd189 P Q 14 L st h = (tR st fun a s => optW (hO h a 7) (fun fs => optW (fs[17]?) (fun v => P 17 L (v :: s) h) wt) wt) := e189_14
theorem g189_18 : exq sa F N S rt cd189 P Q 18 L st h = (aldW sa st h (fun v s => P 19 L (.int v :: s) h) wt) := e189_18
theorem g189_19 : exq sa F N S rt cd189 P Q 19 L st h = (tI st fun v s => tI s fun i s => tR s fun a s => optW (hI h a) (fun q => ixW i q.1 (fun k => P 20 L s (hS h a (.inl (0, q.1, .inl (upd q.2 k v))))) wt) wt) := e189_19
theorem g189_28 : exq sa F N S rt cd189 P Q 28 L st h = (pfdW st h 7 19 0 (fun s h' => P 31 L s h') wt) := e189_28
theorem g190_4 : exq sa F N S rt cd190 P Q 4 L st h = (tI st fun b s => tI s fun a s => brW (b ≤ a) (P 21 L s h) (P 7 L s h) wt wt) := e190_4
theorem g190_9 : exq sa F N S rt cd190 P Q 9 L st h = (tR st fun a s => optW (hO h a 7) (fun fs => optW (fs[18]?) (fun v => P 12 L (v :: s) h) wt) wt) := e190_9
theorem g190_12 : exq sa F N S rt cd190 P Q 12 L st h = (ivVW F 173 2 7 st h (fun r s h' => P 15 L (pu r s) h') wt) := e190_12
theorem g191_4 : exq sa F N S rt cd191 P Q 4 L st h = (ivSW F 135 3 st h (fun r s h' => P 7 L (pu r s) h') wt) := e191_4
theorem g192_2 : exq sa F N S rt cd192 P Q 2 L st h = (ivVW F 162 2 7 st h (fun r s h' => P 5 L (pu r s) h') wt) := e192_2
theorem g192_5 : exq sa F N S rt cd192 P Q 5 L st h = (tI st fun a s => brW (a = 0) (P 24 L s h) (P 8 L s h) wt wt) := e192_5
theorem g192_9 : exq sa F N S rt cd192 P Q 9 L st h = (ivSW F 191 1 st h (fun r s h' => P 12 L (pu r s) h') wt) := e192_9
theorem g192_12 : exq sa F N S rt cd192 P Q 12 L st h = (tI st fun a s => brW (a = 0) (P 24 L s h) (P 15 L s h) wt wt) := e192_12
theorem g192_18 : exq sa F N S rt cd192 P Q 18 L st h = (ivSW F 135 3 st h (fun r s h' => P 21 L (pu r s) h') wt) := e192_18
theorem g192_21 : exq sa F N S rt cd192 P Q 21 L st h = (tI st fun a s => brW (a = 0) (P 24 L s h) (P 27 L s h) wt wt) := e192_21
theorem g192_28 : exq sa F N S rt cd192 P Q 28 L st h = (ivVW F 189 1 7 st h (fun r s h' => P 31 L (pu r s) h') wt) := e192_28
theorem g192_33 : exq sa F N S rt cd192 P Q 33 L st h = (ivVW F 190 2 7 st h (fun r s h' => P 36 L (pu r s) h') wt) := e192_33
theorem g192_38 : exq sa F N S rt cd192 P Q 38 L st h = (tI st fun b s => tI s fun a s => brW (a = b) (P 41 L s h) (P 53 L s h) wt wt) := e192_38
theorem g192_42 : exq sa F N S rt cd192 P Q 42 L st h = (tR st fun a s => optW (hO h a 7) (fun fs => optW (fs[18]?) (fun v => P 45 L (v :: s) h) wt) wt) := e192_42
theorem g192_49 : exq sa F N S rt cd192 P Q 49 L st h = (aldW sa st h (fun v s => P 50 L (.int v :: s) h) wt) := e192_49
theorem g192_54 : exq sa F N S rt cd192 P Q 54 L st h = (tR st fun a s => optW (hO h a 7) (fun fs => optW (fs[18]?) (fun v => P 57 L (v :: s) h) wt) wt) := e192_54
theorem g192_61 : exq sa F N S rt cd192 P Q 61 L st h = (aldW sa st h (fun v s => P 62 L (.int v :: s) h) wt) := e192_61
theorem g192_63 : exq sa F N S rt cd192 P Q 63 L st h = (tI st fun b s => tI s fun a s => brW (a = b) (P 66 L s h) (P 71 L s h) wt wt) := e192_63
theorem g192_72 : exq sa F N S rt cd192 P Q 72 L st h = (tR st fun a s => optW (hO h a 7) (fun fs => optW (fs[18]?) (fun v => P 75 L (v :: s) h) wt) wt) := e192_72
theorem g192_79 : exq sa F N S rt cd192 P Q 79 L st h = (aldW sa st h (fun v s => P 80 L (.int v :: s) h) wt) := e192_79
theorem g193_2 : exq sa F N S rt cd193 P Q 2 L st h = (ivVW F 163 2 7 st h (fun r s h' => P 5 L (pu r s) h') wt) := e193_2
theorem g193_5 : exq sa F N S rt cd193 P Q 5 L st h = (tI st fun a s => brW (a = 0) (P 15 L s h) (P 8 L s h) wt wt) := e193_5
theorem g193_9 : exq sa F N S rt cd193 P Q 9 L st h = (ivSW F 191 1 st h (fun r s h' => P 12 L (pu r s) h') wt) := e193_9
theorem g193_12 : exq sa F N S rt cd193 P Q 12 L st h = (tI st fun a s => brW (a = 0) (P 15 L s h) (P 18 L s h) wt wt) := e193_12
theorem g193_19 : exq sa F N S rt cd193 P Q 19 L st h = (ivVW F 189 1 7 st h (fun r s h' => P 22 L (pu r s) h') wt) := e193_19
theorem g193_24 : exq sa F N S rt cd193 P Q 24 L st h = (ivVW F 190 2 7 st h (fun r s h' => P 27 L (pu r s) h') wt) := e193_24
theorem g193_28 : exq sa F N S rt cd193 P Q 28 L st h = (tR st fun a s => optW (hO h a 7) (fun fs => optW (fs[18]?) (fun v => P 31 L (v :: s) h) wt) wt) := e193_28
theorem g193_32 : exq sa F N S rt cd193 P Q 32 L st h = (aldW sa st h (fun v s => P 33 L (.int v :: s) h) wt) := e193_32
theorem g193_34 : exq sa F N S rt cd193 P Q 34 L st h = (ivSW F 136 2 st h (fun r s h' => P 37 L (pu r s) h') wt) := e193_34
theorem g193_37 : exq sa F N S rt cd193 P Q 37 L st h = (tI st fun a s => brW (a = 0) (P 45 L s h) (P 40 L s h) wt wt) := e193_37
theorem g193_46 : exq sa F N S rt cd193 P Q 46 L st h = (tR st fun a s => optW (hO h a 7) (fun fs => optW (fs[18]?) (fun v => P 49 L (v :: s) h) wt) wt) := e193_46
theorem g193_52 : exq sa F N S rt cd193 P Q 52 L st h = (aldW sa st h (fun v s => P 53 L (.int v :: s) h) wt) := e193_52
end GL
