/-! what each instruction does, held back -/
section GL
variable {sa : aS} {F : aF} {N S : Nat} {rt : Option FieldType} {P : aK} {Q : aQ} {L : aL} {st : List Value} {h : aH}
theorem g0_10 : exq sa F N S rt cd0 P Q 10 L st h = (pfdW st h 0 0 2 (fun s h' => P 13 L s h') wt) := e0_10
theorem g0_18 : exq sa F N S rt cd0 P Q 18 L st h = (tI st fun b s => tI s fun a s => brW (b ≤ a) (P 40 L s h) (P 21 L s h) wt wt) := e0_18
theorem g0_22 : exq sa F N S rt cd0 P Q 22 L st h = (tR st fun a s => optW (hO h a 0) (fun fs => optW (fs[0]?) (fun v => P 25 L (v :: s) h) wt) wt) := e0_22
theorem g1_2 : exq sa F N S rt cd1 P Q 2 L st h = (pfdW st h 0 2 0 (fun s h' => P 5 L s h') wt) := e1_2
theorem g2_1 : exq sa F N S rt cd2 P Q 1 L st h = (tR st fun a s => optW (hO h a 0) (fun fs => optW (fs[0]?) (fun v => P 4 L (v :: s) h) wt) wt) := e2_1
theorem g2_5 : exq sa F N S rt cd2 P Q 5 L st h = (tR st fun a s => optW (hO h a 0) (fun fs => optW (fs[1]?) (fun v => P 8 L (v :: s) h) wt) wt) := e2_5
theorem g2_8 : exq sa F N S rt cd2 P Q 8 L st h = (tI st fun i s => tR s fun a s => optW (hR h a) (fun q => ixW i q.2.1 (fun k => optW (q.2.2 k) (fun v => P 9 L (.ref v :: s) h) wt) wt) wt) := e2_8
theorem g2_10 : exq sa F N S rt cd2 P Q 10 L st h = (ivVW F 15 2 2 st h (fun r s h' => P 13 L (pu r s) h') wt) := e2_10
theorem g2_15 : exq sa F N S rt cd2 P Q 15 L st h = (tR st fun a s => optW (hO h a 0) (fun fs => optW (fs[1]?) (fun v => P 18 L (v :: s) h) wt) wt) := e2_15
theorem g2_23 : exq sa F N S rt cd2 P Q 23 L st h = (pfdW st h 0 1 0 (fun s h' => P 26 L s h') wt) := e2_23
theorem g2_30 : exq sa F N S rt cd2 P Q 30 L st h = (tR st fun a s => optW (hO h a 0) (fun fs => optW (fs[2]?) (fun v => P 33 L (v :: s) h) wt) wt) := e2_30
theorem g2_38 : exq sa F N S rt cd2 P Q 38 L st h = (pfdW st h 0 2 0 (fun s h' => P 41 L s h') wt) := e2_38
theorem g3_2 : exq sa F N S rt cd3 P Q 2 L st h = (tR st fun a s => optW (hO h a 0) (fun fs => optW (fs[1]?) (fun v => P 5 L (v :: s) h) wt) wt) := e3_2
theorem g3_13 : exq sa F N S rt cd3 P Q 13 L st h = (pfdW st h 0 1 0 (fun s h' => P 16 L s h') wt) := e3_13
theorem g3_18 : exq sa F N S rt cd3 P Q 18 L st h = (tR st fun a s => optW (hO h a 0) (fun fs => optW (fs[2]?) (fun v => P 21 L (v :: s) h) wt) wt) := e3_18
theorem g3_23 : exq sa F N S rt cd3 P Q 23 L st h = (pfdW st h 0 2 0 (fun s h' => P 26 L s h') wt) := e3_23
theorem g3_28 : exq sa F N S rt cd3 P Q 28 L st h = (tR st fun a s => optW (hO h a 0) (fun fs => optW (fs[0]?) (fun v => P 31 L (v :: s) h) wt) wt) := e3_28
theorem g3_32 : exq sa F N S rt cd3 P Q 32 L st h = (tR st fun a s => optW (hO h a 0) (fun fs => optW (fs[1]?) (fun v => P 35 L (v :: s) h) wt) wt) := e3_32
theorem g3_35 : exq sa F N S rt cd3 P Q 35 L st h = (tI st fun i s => tR s fun a s => optW (hR h a) (fun q => ixW i q.2.1 (fun k => optW (q.2.2 k) (fun v => P 36 L (.ref v :: s) h) wt) wt) wt) := e3_35
theorem g3_36 : exq sa F N S rt cd3 P Q 36 L st h = (ivVW F 15 2 2 st h (fun r s h' => P 39 L (pu r s) h') wt) := e3_36
theorem g4_9 : exq sa F N S rt cd4 P Q 9 L st h = (pfdW st h 1 0 2 (fun s h' => P 12 L s h') wt) := e4_9
theorem g5_2 : exq sa F N S rt cd5 P Q 2 L st h = (tI st fun b s => tI s fun a s => brW (a = b) (P 17 L s h) (P 5 L s h) wt wt) := e5_2
theorem g5_6 : exq sa F N S rt cd5 P Q 6 L st h = (tI st fun a s => brW (a = 0) (P 17 L s h) (P 9 L s h) wt wt) := e5_6
theorem g5_10 : exq sa F N S rt cd5 P Q 10 L st h = (ivSW F 6 1 st h (fun r s h' => P 13 L (pu r s) h') wt) := e5_10
theorem g5_14 : exq sa F N S rt cd5 P Q 14 L st h = (tI st fun b s => tI s fun a s => brW (a = b) (P 17 L s h) (P 21 L s h) wt wt) := e5_14
theorem g7_2 : exq sa F N S rt cd7 P Q 2 L st h = (pfdW st h 1 2 0 (fun s h' => P 5 L s h') wt) := e7_2
theorem g7_9 : exq sa F N S rt cd7 P Q 9 L st h = (ivSW F 131 3 st h (fun r s h' => P 12 L (pu r s) h') wt) := e7_9
theorem g7_12 : exq sa F N S rt cd7 P Q 12 L st h = (tI st fun a s => brW (a = 0) (P 19 L s h) (P 15 L s h) wt wt) := e7_12
theorem g7_20 : exq sa F N S rt cd7 P Q 20 L st h = (pfdW st h 1 3 0 (fun s h' => P 23 L s h') wt) := e7_20
theorem g7_25 : exq sa F N S rt cd7 P Q 25 L st h = (pfdW st h 1 4 0 (fun s h' => P 28 L s h') wt) := e7_25
theorem g7_31 : exq sa F N S rt cd7 P Q 31 L st h = (pfdW st h 1 5 0 (fun s h' => P 34 L s h') wt) := e7_31
theorem g7_36 : exq sa F N S rt cd7 P Q 36 L st h = (pfdW st h 1 1 0 (fun s h' => P 39 L s h') wt) := e7_36
theorem g8_2 : exq sa F N S rt cd8 P Q 2 L st h = (tI st fun a s => brW (a = 0) (P 5 L s h) (P 16 L s h) wt wt) := e8_2
theorem g8_9 : exq sa F N S rt cd8 P Q 9 L st h = (tR st fun a s => optW (hO h a 1) (fun fs => optW (fs[3]?) (fun v => P 12 L (v :: s) h) wt) wt) := e8_9
theorem g8_12 : exq sa F N S rt cd8 P Q 12 L st h = (aldW sa st h (fun v s => P 13 L (.int v :: s) h) wt) := e8_12
theorem g8_20 : exq sa F N S rt cd8 P Q 20 L st h = (tR st fun a s => optW (hO h a 1) (fun fs => optW (fs[3]?) (fun v => P 23 L (v :: s) h) wt) wt) := e8_20
theorem g8_23 : exq sa F N S rt cd8 P Q 23 L st h = (aldW sa st h (fun v s => P 24 L (.int v :: s) h) wt) := e8_23
theorem g8_25 : exq sa F N S rt cd8 P Q 25 L st h = (ivVW F 9 3 1 st h (fun r s h' => P 28 L (pu r s) h') wt) := e8_25
theorem g9_3 : exq sa F N S rt cd9 P Q 3 L st h = (tI st fun b s => tI s fun a s => brW (a ≤ b) (P 8 L s h) (P 6 L s h) wt wt) := e9_3
theorem g9_10 : exq sa F N S rt cd9 P Q 10 L st h = (ivVW F 10 2 1 st h (fun r s h' => P 13 L (pu r s) h') wt) := e9_10
theorem g9_93 : exq sa F N S rt cd9 P Q 93 L st h = (tR st fun a s => optW (hO h a 1) (fun fs => optW (fs[4]?) (fun v => P 96 L (v :: s) h) wt) wt) := e9_93
theorem g9_101 : exq sa F N S rt cd9 P Q 101 L st h = (ivVW F 9 3 1 st h (fun r s h' => P 104 L (pu r s) h') wt) := e9_101
theorem g9_109 : exq sa F N S rt cd9 P Q 109 L st h = (tR st fun a s => optW (hO h a 1) (fun fs => optW (fs[3]?) (fun v => P 112 L (v :: s) h) wt) wt) := e9_109
theorem g9_112 : exq sa F N S rt cd9 P Q 112 L st h = (aldW sa st h (fun v s => P 113 L (.int v :: s) h) wt) := e9_112
theorem g9_114 : exq sa F N S rt cd9 P Q 114 L st h = (ivVW F 9 3 1 st h (fun r s h' => P 117 L (pu r s) h') wt) := e9_114
theorem g9_123 : exq sa F N S rt cd9 P Q 123 L st h = (ivVW F 9 3 1 st h (fun r s h' => P 126 L (pu r s) h') wt) := e9_123
theorem g9_132 : exq sa F N S rt cd9 P Q 132 L st h = (ivVW F 9 3 1 st h (fun r s h' => P 135 L (pu r s) h') wt) := e9_132
theorem g9_143 : exq sa F N S rt cd9 P Q 143 L st h = (ivVW F 9 3 1 st h (fun r s h' => P 146 L (pu r s) h') wt) := e9_143
theorem g9_150 : exq sa F N S rt cd9 P Q 150 L st h = (tR st fun a s => optW (hO h a 1) (fun fs => optW (fs[2]?) (fun v => P 153 L (v :: s) h) wt) wt) := e9_150
theorem g9_158 : exq sa F N S rt cd9 P Q 158 L st h = (ivVW F 9 3 1 st h (fun r s h' => P 161 L (pu r s) h') wt) := e9_158
theorem g9_162 : exq sa F N S rt cd9 P Q 162 L st h = (tR st fun a s => optW (hO h a 1) (fun fs => optW (fs[5]?) (fun v => P 165 L (v :: s) h) wt) wt) := e9_162
theorem g9_171 : exq sa F N S rt cd9 P Q 171 L st h = (ivVW F 9 3 1 st h (fun r s h' => P 174 L (pu r s) h') wt) := e9_171
theorem g9_183 : exq sa F N S rt cd9 P Q 183 L st h = (ivVW F 9 3 1 st h (fun r s h' => P 186 L (pu r s) h') wt) := e9_183
theorem g9_191 : exq sa F N S rt cd9 P Q 191 L st h = (tR st fun a s => optW (hO h a 1) (fun fs => optW (fs[3]?) (fun v => P 194 L (v :: s) h) wt) wt) := e9_191
theorem g9_194 : exq sa F N S rt cd9 P Q 194 L st h = (aldW sa st h (fun v s => P 195 L (.int v :: s) h) wt) := e9_194
theorem g9_196 : exq sa F N S rt cd9 P Q 196 L st h = (ivVW F 9 3 1 st h (fun r s h' => P 199 L (pu r s) h') wt) := e9_196
theorem g9_205 : exq sa F N S rt cd9 P Q 205 L st h = (ivVW F 9 3 1 st h (fun r s h' => P 208 L (pu r s) h') wt) := e9_205
theorem g10_1 : exq sa F N S rt cd10 P Q 1 L st h = (tR st fun a s => optW (hO h a 1) (fun fs => optW (fs[1]?) (fun v => P 4 L (v :: s) h) wt) wt) := e10_1
theorem g10_6 : exq sa F N S rt cd10 P Q 6 L st h = (tI st fun b s => tI s fun a s => brW (b ≤ a) (P 29 L s h) (P 9 L s h) wt wt) := e10_6
theorem g10_10 : exq sa F N S rt cd10 P Q 10 L st h = (tR st fun a s => optW (hO h a 1) (fun fs => optW (fs[0]?) (fun v => P 13 L (v :: s) h) wt) wt) := e10_10
theorem g10_14 : exq sa F N S rt cd10 P Q 14 L st h = (tR st fun a s => optW (hO h a 1) (fun fs => optW (fs[1]?) (fun v => P 17 L (v :: s) h) wt) wt) := e10_14
theorem g10_18 : exq sa F N S rt cd10 P Q 18 L st h = (tI st fun v s => tI s fun i s => tR s fun a s => optW (hI h a) (fun q => ixW i q.1 (fun k => P 19 L s (hS h a (.inl (0, q.1, .inl (upd q.2 k v))))) wt) wt) := e10_18
theorem g10_21 : exq sa F N S rt cd10 P Q 21 L st h = (tR st fun a s => optW (hO h a 1) (fun fs => optW (fs[1]?) (fun v => P 24 L (v :: s) h) wt) wt) := e10_21
theorem g10_26 : exq sa F N S rt cd10 P Q 26 L st h = (pfdW st h 1 1 0 (fun s h' => P 29 L s h') wt) := e10_26
theorem g11_8 : exq sa F N S rt cd11 P Q 8 L st h = (pfdW st h 2 4 2 (fun s h' => P 11 L s h') wt) := e11_8
theorem g11_15 : exq sa F N S rt cd11 P Q 15 L st h = (pfdW st h 2 5 2 (fun s h' => P 18 L s h') wt) := e11_15
theorem g11_22 : exq sa F N S rt cd11 P Q 22 L st h = (pfdW st h 2 6 2 (fun s h' => P 25 L s h') wt) := e11_22
theorem g11_29 : exq sa F N S rt cd11 P Q 29 L st h = (pfdW st h 2 7 2 (fun s h' => P 32 L s h') wt) := e11_29
theorem g11_36 : exq sa F N S rt cd11 P Q 36 L st h = (pfdW st h 2 8 2 (fun s h' => P 39 L s h') wt) := e11_36
theorem g11_44 : exq sa F N S rt cd11 P Q 44 L st h = (pfdW st h 2 10 2 (fun s h' => P 47 L s h') wt) := e11_44
theorem g11_52 : exq sa F N S rt cd11 P Q 52 L st h = (pfdW st h 2 11 2 (fun s h' => P 55 L s h') wt) := e11_52
theorem g11_60 : exq sa F N S rt cd11 P Q 60 L st h = (pfdW st h 2 12 2 (fun s h' => P 63 L s h') wt) := e11_60
theorem g12_2 : exq sa F N S rt cd12 P Q 2 L st h = (pfdW st h 2 3 0 (fun s h' => P 5 L s h') wt) := e12_2
theorem g12_7 : exq sa F N S rt cd12 P Q 7 L st h = (pfdW st h 2 9 0 (fun s h' => P 10 L s h') wt) := e12_7
theorem g13_1 : exq sa F N S rt cd13 P Q 1 L st h = (tR st fun a s => optW (hO h a 2) (fun fs => optW (fs[10]?) (fun v => P 4 L (v :: s) h) wt) wt) := e13_1
theorem g13_5 : exq sa F N S rt cd13 P Q 5 L st h = (tR st fun a s => optW (hO h a 2) (fun fs => optW (fs[9]?) (fun v => P 8 L (v :: s) h) wt) wt) := e13_5
theorem g13_9 : exq sa F N S rt cd13 P Q 9 L st h = (tI st fun v s => tI s fun i s => tR s fun a s => optW (hI h a) (fun q => ixW i q.1 (fun k => P 10 L s (hS h a (.inl (0, q.1, .inl (upd q.2 k v))))) wt) wt) := e13_9
theorem g13_11 : exq sa F N S rt cd13 P Q 11 L st h = (tR st fun a s => optW (hO h a 2) (fun fs => optW (fs[11]?) (fun v => P 14 L (v :: s) h) wt) wt) := e13_11
theorem g13_15 : exq sa F N S rt cd13 P Q 15 L st h = (tR st fun a s => optW (hO h a 2) (fun fs => optW (fs[9]?) (fun v => P 18 L (v :: s) h) wt) wt) := e13_15
theorem g13_19 : exq sa F N S rt cd13 P Q 19 L st h = (tI st fun v s => tI s fun i s => tR s fun a s => optW (hI h a) (fun q => ixW i q.1 (fun k => P 20 L s (hS h a (.inl (0, q.1, .inl (upd q.2 k v))))) wt) wt) := e13_19
theorem g13_21 : exq sa F N S rt cd13 P Q 21 L st h = (tR st fun a s => optW (hO h a 2) (fun fs => optW (fs[12]?) (fun v => P 24 L (v :: s) h) wt) wt) := e13_21
theorem g13_25 : exq sa F N S rt cd13 P Q 25 L st h = (tR st fun a s => optW (hO h a 2) (fun fs => optW (fs[9]?) (fun v => P 28 L (v :: s) h) wt) wt) := e13_25
theorem g13_29 : exq sa F N S rt cd13 P Q 29 L st h = (tI st fun v s => tI s fun i s => tR s fun a s => optW (hI h a) (fun q => ixW i q.1 (fun k => P 30 L s (hS h a (.inl (0, q.1, .inl (upd q.2 k v))))) wt) wt) := e13_29
theorem g13_32 : exq sa F N S rt cd13 P Q 32 L st h = (tR st fun a s => optW (hO h a 2) (fun fs => optW (fs[9]?) (fun v => P 35 L (v :: s) h) wt) wt) := e13_32
theorem g13_37 : exq sa F N S rt cd13 P Q 37 L st h = (pfdW st h 2 9 0 (fun s h' => P 40 L s h') wt) := e13_37
theorem g14_1 : exq sa F N S rt cd14 P Q 1 L st h = (tR st fun a s => optW (hO h a 2) (fun fs => optW (fs[4]?) (fun v => P 4 L (v :: s) h) wt) wt) := e14_1
theorem g14_5 : exq sa F N S rt cd14 P Q 5 L st h = (tR st fun a s => optW (hO h a 2) (fun fs => optW (fs[3]?) (fun v => P 8 L (v :: s) h) wt) wt) := e14_5
theorem g14_9 : exq sa F N S rt cd14 P Q 9 L st h = (tI st fun v s => tI s fun i s => tR s fun a s => optW (hI h a) (fun q => ixW i q.1 (fun k => P 10 L s (hS h a (.inl (0, q.1, .inl (upd q.2 k v))))) wt) wt) := e14_9
theorem g14_11 : exq sa F N S rt cd14 P Q 11 L st h = (tR st fun a s => optW (hO h a 2) (fun fs => optW (fs[5]?) (fun v => P 14 L (v :: s) h) wt) wt) := e14_11
theorem g14_15 : exq sa F N S rt cd14 P Q 15 L st h = (tR st fun a s => optW (hO h a 2) (fun fs => optW (fs[3]?) (fun v => P 18 L (v :: s) h) wt) wt) := e14_15
theorem g14_19 : exq sa F N S rt cd14 P Q 19 L st h = (tI st fun v s => tI s fun i s => tR s fun a s => optW (hI h a) (fun q => ixW i q.1 (fun k => P 20 L s (hS h a (.inl (0, q.1, .inl (upd q.2 k v))))) wt) wt) := e14_19
theorem g14_22 : exq sa F N S rt cd14 P Q 22 L st h = (tR st fun a s => optW (hO h a 2) (fun fs => optW (fs[3]?) (fun v => P 25 L (v :: s) h) wt) wt) := e14_22
theorem g14_27 : exq sa F N S rt cd14 P Q 27 L st h = (pfdW st h 2 3 0 (fun s h' => P 30 L s h') wt) := e14_27
theorem g15_2 : exq sa F N S rt cd15 P Q 2 L st h = (tR st fun a s => optW (hO h a 2) (fun fs => optW (fs[0]?) (fun v => P 5 L (v :: s) h) wt) wt) := e15_2
theorem g15_5 : exq sa F N S rt cd15 P Q 5 L st h = (pfdW st h 2 0 0 (fun s h' => P 8 L s h') wt) := e15_5
theorem g15_10 : exq sa F N S rt cd15 P Q 10 L st h = (tR st fun a s => optW (hO h a 2) (fun fs => optW (fs[1]?) (fun v => P 13 L (v :: s) h) wt) wt) := e15_10
theorem g15_13 : exq sa F N S rt cd15 P Q 13 L st h = (pfdW st h 2 1 0 (fun s h' => P 16 L s h') wt) := e15_13
theorem g15_18 : exq sa F N S rt cd15 P Q 18 L st h = (tR st fun a s => optW (hO h a 2) (fun fs => optW (fs[2]?) (fun v => P 21 L (v :: s) h) wt) wt) := e15_18
theorem g15_21 : exq sa F N S rt cd15 P Q 21 L st h = (pfdW st h 2 2 0 (fun s h' => P 24 L s h') wt) := e15_21
theorem g15_26 : exq sa F N S rt cd15 P Q 26 L st h = (tR st fun a s => optW (hO h a 2) (fun fs => optW (fs[3]?) (fun v => P 29 L (v :: s) h) wt) wt) := e15_26
theorem g15_29 : exq sa F N S rt cd15 P Q 29 L st h = (pfdW st h 2 3 0 (fun s h' => P 32 L s h') wt) := e15_29
theorem g15_34 : exq sa F N S rt cd15 P Q 34 L st h = (tR st fun a s => optW (hO h a 2) (fun fs => optW (fs[9]?) (fun v => P 37 L (v :: s) h) wt) wt) := e15_34
theorem g15_37 : exq sa F N S rt cd15 P Q 37 L st h = (pfdW st h 2 9 0 (fun s h' => P 40 L s h') wt) := e15_37
theorem g15_42 : exq sa F N S rt cd15 P Q 42 L st h = (tR st fun a s => optW (hO h a 2) (fun fs => optW (fs[13]?) (fun v => P 45 L (v :: s) h) wt) wt) := e15_42
theorem g15_45 : exq sa F N S rt cd15 P Q 45 L st h = (pfdW st h 2 13 0 (fun s h' => P 48 L s h') wt) := e15_45
theorem g15_50 : exq sa F N S rt cd15 P Q 50 L st h = (tR st fun a s => optW (hO h a 2) (fun fs => optW (fs[14]?) (fun v => P 53 L (v :: s) h) wt) wt) := e15_50
theorem g15_53 : exq sa F N S rt cd15 P Q 53 L st h = (pfdW st h 2 14 0 (fun s h' => P 56 L s h') wt) := e15_53
theorem g15_60 : exq sa F N S rt cd15 P Q 60 L st h = (tR st fun a s => optW (hO h a 2) (fun fs => optW (fs[3]?) (fun v => P 63 L (v :: s) h) wt) wt) := e15_60
theorem g15_63 : exq sa F N S rt cd15 P Q 63 L st h = (tI st fun b s => tI s fun a s => brW (b ≤ a) (P 132 L s h) (P 66 L s h) wt wt) := e15_63
theorem g15_67 : exq sa F N S rt cd15 P Q 67 L st h = (tR st fun a s => optW (hO h a 2) (fun fs => optW (fs[4]?) (fun v => P 70 L (v :: s) h) wt) wt) := e15_67
theorem g15_72 : exq sa F N S rt cd15 P Q 72 L st h = (tR st fun a s => optW (hO h a 2) (fun fs => optW (fs[4]?) (fun v => P 75 L (v :: s) h) wt) wt) := e15_72
theorem g15_76 : exq sa F N S rt cd15 P Q 76 L st h = (aldW sa st h (fun v s => P 77 L (.int v :: s) h) wt) := e15_76
theorem g15_77 : exq sa F N S rt cd15 P Q 77 L st h = (tI st fun v s => tI s fun i s => tR s fun a s => optW (hI h a) (fun q => ixW i q.1 (fun k => P 78 L s (hS h a (.inl (0, q.1, .inl (upd q.2 k v))))) wt) wt) := e15_77
theorem g15_79 : exq sa F N S rt cd15 P Q 79 L st h = (tR st fun a s => optW (hO h a 2) (fun fs => optW (fs[5]?) (fun v => P 82 L (v :: s) h) wt) wt) := e15_79
theorem g15_84 : exq sa F N S rt cd15 P Q 84 L st h = (tR st fun a s => optW (hO h a 2) (fun fs => optW (fs[5]?) (fun v => P 87 L (v :: s) h) wt) wt) := e15_84
theorem g15_88 : exq sa F N S rt cd15 P Q 88 L st h = (aldW sa st h (fun v s => P 89 L (.int v :: s) h) wt) := e15_88
theorem g15_89 : exq sa F N S rt cd15 P Q 89 L st h = (tI st fun v s => tI s fun i s => tR s fun a s => optW (hI h a) (fun q => ixW i q.1 (fun k => P 90 L s (hS h a (.inl (0, q.1, .inl (upd q.2 k v))))) wt) wt) := e15_89
theorem g15_91 : exq sa F N S rt cd15 P Q 91 L st h = (tR st fun a s => optW (hO h a 2) (fun fs => optW (fs[6]?) (fun v => P 94 L (v :: s) h) wt) wt) := e15_91
theorem g15_96 : exq sa F N S rt cd15 P Q 96 L st h = (tR st fun a s => optW (hO h a 2) (fun fs => optW (fs[6]?) (fun v => P 99 L (v :: s) h) wt) wt) := e15_96
theorem g15_100 : exq sa F N S rt cd15 P Q 100 L st h = (aldW sa st h (fun v s => P 101 L (.int v :: s) h) wt) := e15_100
theorem g15_101 : exq sa F N S rt cd15 P Q 101 L st h = (tI st fun v s => tI s fun i s => tR s fun a s => optW (hI h a) (fun q => ixW i q.1 (fun k => P 102 L s (hS h a (.inl (0, q.1, .inl (upd q.2 k v))))) wt) wt) := e15_101
theorem g15_103 : exq sa F N S rt cd15 P Q 103 L st h = (tR st fun a s => optW (hO h a 2) (fun fs => optW (fs[7]?) (fun v => P 106 L (v :: s) h) wt) wt) := e15_103
theorem g15_108 : exq sa F N S rt cd15 P Q 108 L st h = (tR st fun a s => optW (hO h a 2) (fun fs => optW (fs[7]?) (fun v => P 111 L (v :: s) h) wt) wt) := e15_108
theorem g15_112 : exq sa F N S rt cd15 P Q 112 L st h = (aldW sa st h (fun v s => P 113 L (.int v :: s) h) wt) := e15_112
theorem g15_113 : exq sa F N S rt cd15 P Q 113 L st h = (tI st fun v s => tI s fun i s => tR s fun a s => optW (hI h a) (fun q => ixW i q.1 (fun k => P 114 L s (hS h a (.inl (0, q.1, .inl (upd q.2 k v))))) wt) wt) := e15_113
theorem g15_115 : exq sa F N S rt cd15 P Q 115 L st h = (tR st fun a s => optW (hO h a 2) (fun fs => optW (fs[8]?) (fun v => P 118 L (v :: s) h) wt) wt) := e15_115
theorem g15_120 : exq sa F N S rt cd15 P Q 120 L st h = (tR st fun a s => optW (hO h a 2) (fun fs => optW (fs[8]?) (fun v => P 123 L (v :: s) h) wt) wt) := e15_120
theorem g15_124 : exq sa F N S rt cd15 P Q 124 L st h = (aldW sa st h (fun v s => P 125 L (.int v :: s) h) wt) := e15_124
theorem g15_125 : exq sa F N S rt cd15 P Q 125 L st h = (tI st fun v s => tI s fun i s => tR s fun a s => optW (hI h a) (fun q => ixW i q.1 (fun k => P 126 L s (hS h a (.inl (0, q.1, .inl (upd q.2 k v))))) wt) wt) := e15_125
theorem g15_136 : exq sa F N S rt cd15 P Q 136 L st h = (tR st fun a s => optW (hO h a 2) (fun fs => optW (fs[9]?) (fun v => P 139 L (v :: s) h) wt) wt) := e15_136
theorem g15_139 : exq sa F N S rt cd15 P Q 139 L st h = (tI st fun b s => tI s fun a s => brW (b ≤ a) (P 184 L s h) (P 142 L s h) wt wt) := e15_139
theorem g15_143 : exq sa F N S rt cd15 P Q 143 L st h = (tR st fun a s => optW (hO h a 2) (fun fs => optW (fs[10]?) (fun v => P 146 L (v :: s) h) wt) wt) := e15_143
theorem g15_148 : exq sa F N S rt cd15 P Q 148 L st h = (tR st fun a s => optW (hO h a 2) (fun fs => optW (fs[10]?) (fun v => P 151 L (v :: s) h) wt) wt) := e15_148
theorem g15_152 : exq sa F N S rt cd15 P Q 152 L st h = (aldW sa st h (fun v s => P 153 L (.int v :: s) h) wt) := e15_152
theorem g15_153 : exq sa F N S rt cd15 P Q 153 L st h = (tI st fun v s => tI s fun i s => tR s fun a s => optW (hI h a) (fun q => ixW i q.1 (fun k => P 154 L s (hS h a (.inl (0, q.1, .inl (upd q.2 k v))))) wt) wt) := e15_153
theorem g15_155 : exq sa F N S rt cd15 P Q 155 L st h = (tR st fun a s => optW (hO h a 2) (fun fs => optW (fs[11]?) (fun v => P 158 L (v :: s) h) wt) wt) := e15_155
theorem g15_160 : exq sa F N S rt cd15 P Q 160 L st h = (tR st fun a s => optW (hO h a 2) (fun fs => optW (fs[11]?) (fun v => P 163 L (v :: s) h) wt) wt) := e15_160
theorem g15_164 : exq sa F N S rt cd15 P Q 164 L st h = (aldW sa st h (fun v s => P 165 L (.int v :: s) h) wt) := e15_164
theorem g15_165 : exq sa F N S rt cd15 P Q 165 L st h = (tI st fun v s => tI s fun i s => tR s fun a s => optW (hI h a) (fun q => ixW i q.1 (fun k => P 166 L s (hS h a (.inl (0, q.1, .inl (upd q.2 k v))))) wt) wt) := e15_165
theorem g15_167 : exq sa F N S rt cd15 P Q 167 L st h = (tR st fun a s => optW (hO h a 2) (fun fs => optW (fs[12]?) (fun v => P 170 L (v :: s) h) wt) wt) := e15_167
theorem g15_172 : exq sa F N S rt cd15 P Q 172 L st h = (tR st fun a s => optW (hO h a 2) (fun fs => optW (fs[12]?) (fun v => P 175 L (v :: s) h) wt) wt) := e15_172
theorem g15_176 : exq sa F N S rt cd15 P Q 176 L st h = (aldW sa st h (fun v s => P 177 L (.int v :: s) h) wt) := e15_176
theorem g15_177 : exq sa F N S rt cd15 P Q 177 L st h = (tI st fun v s => tI s fun i s => tR s fun a s => optW (hI h a) (fun q => ixW i q.1 (fun k => P 178 L s (hS h a (.inl (0, q.1, .inl (upd q.2 k v))))) wt) wt) := e15_177
theorem g16_1 : exq sa F N S rt cd16 P Q 1 L st h = (tR st fun a s => optW (hO h a 2) (fun fs => optW (fs[3]?) (fun v => P 4 L (v :: s) h) wt) wt) := e16_1
theorem g16_4 : exq sa F N S rt cd16 P Q 4 L st h = (tI st fun a s => brW (a ≤ 0) (P 11 L s h) (P 7 L s h) wt wt) := e16_4
theorem g17_3 : exq sa F N S rt cd17 P Q 3 L st h = (tR st fun a s => optW (hO h a 2) (fun fs => optW (fs[3]?) (fun v => P 6 L (v :: s) h) wt) wt) := e17_3
theorem g17_8 : exq sa F N S rt cd17 P Q 8 L st h = (ivSW F 131 3 st h (fun r s h' => P 11 L (pu r s) h') wt) := e17_8
theorem g18_3 : exq sa F N S rt cd18 P Q 3 L st h = (tR st fun a s => optW (hO h a 2) (fun fs => optW (fs[9]?) (fun v => P 6 L (v :: s) h) wt) wt) := e18_3
theorem g18_8 : exq sa F N S rt cd18 P Q 8 L st h = (ivSW F 131 3 st h (fun r s h' => P 11 L (pu r s) h') wt) := e18_8
theorem g19_3 : exq sa F N S rt cd19 P Q 3 L st h = (tR st fun a s => optW (hO h a 2) (fun fs => optW (fs[0]?) (fun v => P 6 L (v :: s) h) wt) wt) := e19_3
theorem g19_8 : exq sa F N S rt cd19 P Q 8 L st h = (ivSW F 131 3 st h (fun r s h' => P 11 L (pu r s) h') wt) := e19_8
theorem g20_1 : exq sa F N S rt cd20 P Q 1 L st h = (tR st fun a s => optW (hO h a 2) (fun fs => optW (fs[13]?) (fun v => P 4 L (v :: s) h) wt) wt) := e20_1
theorem g20_9 : exq sa F N S rt cd20 P Q 9 L st h = (tI st fun b s => tI s fun a s => brW (a = b) (P 12 L s h) (P 16 L s h) wt wt) := e20_9
theorem g21_6 : exq sa F N S rt cd21 P Q 6 L st h = (tR st fun a s => optW (hO h a 2) (fun fs => optW (fs[9]?) (fun v => P 9 L (v :: s) h) wt) wt) := e21_6
theorem g21_9 : exq sa F N S rt cd21 P Q 9 L st h = (tI st fun b s => tI s fun a s => brW (b ≤ a) (P 39 L s h) (P 12 L s h) wt wt) := e21_9
theorem g21_15 : exq sa F N S rt cd21 P Q 15 L st h = (ivVW F 20 2 2 st h (fun r s h' => P 18 L (pu r s) h') wt) := e21_15
theorem g21_18 : exq sa F N S rt cd21 P Q 18 L st h = (tI st fun a s => brW (a = 0) (P 30 L s h) (P 21 L s h) wt wt) := e21_18
theorem g21_22 : exq sa F N S rt cd21 P Q 22 L st h = (tR st fun a s => optW (hO h a 2) (fun fs => optW (fs[11]?) (fun v => P 25 L (v :: s) h) wt) wt) := e21_22
theorem g21_26 : exq sa F N S rt cd21 P Q 26 L st h = (aldW sa st h (fun v s => P 27 L (.int v :: s) h) wt) := e21_26
theorem g22_6 : exq sa F N S rt cd22 P Q 6 L st h = (tR st fun a s => optW (hO h a 2) (fun fs => optW (fs[3]?) (fun v => P 9 L (v :: s) h) wt) wt) := e22_6
theorem g22_9 : exq sa F N S rt cd22 P Q 9 L st h = (tI st fun b s => tI s fun a s => brW (b ≤ a) (P 38 L s h) (P 12 L s h) wt wt) := e22_9
theorem g22_14 : exq sa F N S rt cd22 P Q 14 L st h = (tR st fun a s => optW (hO h a 2) (fun fs => optW (fs[7]?) (fun v => P 17 L (v :: s) h) wt) wt) := e22_14
theorem g22_18 : exq sa F N S rt cd22 P Q 18 L st h = (aldW sa st h (fun v s => P 19 L (.int v :: s) h) wt) := e22_18
theorem g22_20 : exq sa F N S rt cd22 P Q 20 L st h = (tI st fun b s => tI s fun a s => brW (a = b) (P 23 L s h) (P 29 L s h) wt wt) := e22_20
theorem g23_3 : exq sa F N S rt cd23 P Q 3 L st h = (ivVW F 26 3 2 st h (fun r s h' => P 6 L (pu r s) h') wt) := e23_3
theorem g24_3 : exq sa F N S rt cd24 P Q 3 L st h = (ivVW F 26 3 2 st h (fun r s h' => P 6 L (pu r s) h') wt) := e24_3
theorem g25_4 : exq sa F N S rt cd25 P Q 4 L st h = (tR st fun a s => optW (hO h a 2) (fun fs => optW (fs[3]?) (fun v => P 7 L (v :: s) h) wt) wt) := e25_4
theorem g25_7 : exq sa F N S rt cd25 P Q 7 L st h = (tI st fun b s => tI s fun a s => brW (b ≤ a) (P 31 L s h) (P 10 L s h) wt wt) := e25_7
theorem g25_16 : exq sa F N S rt cd25 P Q 16 L st h = (tI st fun b s => tI s fun a s => brW (a = b) (P 19 L s h) (P 25 L s h) wt wt) := e25_16
theorem g25_22 : exq sa F N S rt cd25 P Q 22 L st h = (ivVW F 26 3 2 st h (fun r s h' => P 25 L (pu r s) h') wt) := e25_22
theorem g26_1 : exq sa F N S rt cd26 P Q 1 L st h = (tR st fun a s => optW (hO h a 2) (fun fs => optW (fs[6]?) (fun v => P 4 L (v :: s) h) wt) wt) := e26_1
theorem g26_6 : exq sa F N S rt cd26 P Q 6 L st h = (tI st fun v s => tI s fun i s => tR s fun a s => optW (hI h a) (fun q => ixW i q.1 (fun k => P 7 L s (hS h a (.inl (0, q.1, .inl (upd q.2 k v))))) wt) wt) := e26_6
theorem g26_8 : exq sa F N S rt cd26 P Q 8 L st h = (tR st fun a s => optW (hO h a 2) (fun fs => optW (fs[7]?) (fun v => P 11 L (v :: s) h) wt) wt) := e26_8
theorem g26_13 : exq sa F N S rt cd26 P Q 13 L st h = (tI st fun v s => tI s fun i s => tR s fun a s => optW (hI h a) (fun q => ixW i q.1 (fun k => P 14 L s (hS h a (.inl (0, q.1, .inl (upd q.2 k v))))) wt) wt) := e26_13
theorem g26_15 : exq sa F N S rt cd26 P Q 15 L st h = (tR st fun a s => optW (hO h a 2) (fun fs => optW (fs[8]?) (fun v => P 18 L (v :: s) h) wt) wt) := e26_15
theorem g26_20 : exq sa F N S rt cd26 P Q 20 L st h = (tI st fun v s => tI s fun i s => tR s fun a s => optW (hI h a) (fun q => ixW i q.1 (fun k => P 21 L s (hS h a (.inl (0, q.1, .inl (upd q.2 k v))))) wt) wt) := e26_20
theorem g27_4 : exq sa F N S rt cd27 P Q 4 L st h = (tI st fun b s => tI s fun a s => brW (b ≤ a) (P 131 L s h) (P 7 L s h) wt wt) := e27_4
theorem g27_11 : exq sa F N S rt cd27 P Q 11 L st h = (tR st fun a s => optW (hO h a 2) (fun fs => optW (fs[9]?) (fun v => P 14 L (v :: s) h) wt) wt) := e27_11
theorem g27_14 : exq sa F N S rt cd27 P Q 14 L st h = (tI st fun b s => tI s fun a s => brW (b ≤ a) (P 28 L s h) (P 17 L s h) wt wt) := e27_14
theorem g27_19 : exq sa F N S rt cd27 P Q 19 L st h = (ivVW F 28 2 2 st h (fun r s h' => P 22 L (pu r s) h') wt) := e27_19
theorem g27_32 : exq sa F N S rt cd27 P Q 32 L st h = (tR st fun a s => optW (hO h a 2) (fun fs => optW (fs[3]?) (fun v => P 35 L (v :: s) h) wt) wt) := e27_32
theorem g27_35 : exq sa F N S rt cd27 P Q 35 L st h = (tI st fun b s => tI s fun a s => brW (b ≤ a) (P 115 L s h) (P 38 L s h) wt wt) := e27_35
theorem g27_39 : exq sa F N S rt cd27 P Q 39 L st h = (tR st fun a s => optW (hO h a 2) (fun fs => optW (fs[7]?) (fun v => P 42 L (v :: s) h) wt) wt) := e27_39
theorem g27_43 : exq sa F N S rt cd27 P Q 43 L st h = (aldW sa st h (fun v s => P 44 L (.int v :: s) h) wt) := e27_43
theorem g27_45 : exq sa F N S rt cd27 P Q 45 L st h = (tI st fun b s => tI s fun a s => brW (a = b) (P 48 L s h) (P 60 L s h) wt wt) := e27_45
theorem g27_50 : exq sa F N S rt cd27 P Q 50 L st h = (ivVW F 29 2 2 st h (fun r s h' => P 53 L (pu r s) h') wt) := e27_50
theorem g27_53 : exq sa F N S rt cd27 P Q 53 L st h = (tI st fun a s => brW (a = 0) (P 60 L s h) (P 56 L s h) wt wt) := e27_53
theorem g27_64 : exq sa F N S rt cd27 P Q 64 L st h = (tR st fun a s => optW (hO h a 2) (fun fs => optW (fs[2]?) (fun v => P 67 L (v :: s) h) wt) wt) := e27_64
theorem g27_70 : exq sa F N S rt cd27 P Q 70 L st h = (tI st fun b s => tI s fun a s => brW (a = b) (P 73 L s h) (P 109 L s h) wt wt) := e27_70
theorem g27_75 : exq sa F N S rt cd27 P Q 75 L st h = (tI st fun a s => brW (a = 0) (P 78 L s h) (P 109 L s h) wt wt) := e27_75
theorem g27_79 : exq sa F N S rt cd27 P Q 79 L st h = (tR st fun a s => optW (hO h a 2) (fun fs => optW (fs[7]?) (fun v => P 82 L (v :: s) h) wt) wt) := e27_79
theorem g27_83 : exq sa F N S rt cd27 P Q 83 L st h = (aldW sa st h (fun v s => P 84 L (.int v :: s) h) wt) := e27_83
theorem g27_85 : exq sa F N S rt cd27 P Q 85 L st h = (tI st fun b s => tI s fun a s => brW (a = b) (P 109 L s h) (P 88 L s h) wt wt) := e27_85
theorem g27_89 : exq sa F N S rt cd27 P Q 89 L st h = (tR st fun a s => optW (hO h a 2) (fun fs => optW (fs[5]?) (fun v => P 92 L (v :: s) h) wt) wt) := e27_89
theorem g27_93 : exq sa F N S rt cd27 P Q 93 L st h = (aldW sa st h (fun v s => P 94 L (.int v :: s) h) wt) := e27_93
theorem g27_96 : exq sa F N S rt cd27 P Q 96 L st h = (tI st fun b s => tI s fun a s => brW (b ≤ a) (P 109 L s h) (P 99 L s h) wt wt) := e27_96
theorem g27_100 : exq sa F N S rt cd27 P Q 100 L st h = (tR st fun a s => optW (hO h a 2) (fun fs => optW (fs[5]?) (fun v => P 103 L (v :: s) h) wt) wt) := e27_100
theorem g27_105 : exq sa F N S rt cd27 P Q 105 L st h = (aldW sa st h (fun v s => P 106 L (.int v :: s) h) wt) := e27_105
theorem g27_108 : exq sa F N S rt cd27 P Q 108 L st h = (tI st fun v s => tI s fun i s => tR s fun a s => optW (hI h a) (fun q => ixW i q.1 (fun k => P 109 L s (hS h a (.inl (0, q.1, .inl (upd q.2 k v))))) wt) wt) := e27_108
theorem g27_117 : exq sa F N S rt cd27 P Q 117 L st h = (tR st fun a s => optW (hO h a 2) (fun fs => optW (fs[2]?) (fun v => P 120 L (v :: s) h) wt) wt) := e27_117
theorem g27_122 : exq sa F N S rt cd27 P Q 122 L st h = (pfdW st h 2 2 0 (fun s h' => P 125 L s h') wt) := e27_122
theorem g28_2 : exq sa F N S rt cd28 P Q 2 L st h = (ivVW F 20 2 2 st h (fun r s h' => P 5 L (pu r s) h') wt) := e28_2
theorem g28_5 : exq sa F N S rt cd28 P Q 5 L st h = (tI st fun a s => brW (a = 0) (P 9 L s h) (P 8 L s h) wt wt) := e28_5
theorem g28_10 : exq sa F N S rt cd28 P Q 10 L st h = (tR st fun a s => optW (hO h a 2) (fun fs => optW (fs[12]?) (fun v => P 13 L (v :: s) h) wt) wt) := e28_10
theorem g28_14 : exq sa F N S rt cd28 P Q 14 L st h = (aldW sa st h (fun v s => P 15 L (.int v :: s) h) wt) := e28_14
theorem g28_16 : exq sa F N S rt cd28 P Q 16 L st h = (tI st fun b s => tI s fun a s => brW (a = b) (P 19 L s h) (P 44 L s h) wt wt) := e28_16
theorem g28_20 : exq sa F N S rt cd28 P Q 20 L st h = (tR st fun a s => optW (hO h a 2) (fun fs => optW (fs[10]?) (fun v => P 23 L (v :: s) h) wt) wt) := e28_20
theorem g28_24 : exq sa F N S rt cd28 P Q 24 L st h = (aldW sa st h (fun v s => P 25 L (.int v :: s) h) wt) := e28_24
theorem g28_26 : exq sa F N S rt cd28 P Q 26 L st h = (tR st fun a s => optW (hO h a 2) (fun fs => optW (fs[0]?) (fun v => P 29 L (v :: s) h) wt) wt) := e28_26
theorem g28_31 : exq sa F N S rt cd28 P Q 31 L st h = (tI st fun b s => tI s fun a s => brW (a < b) (P 44 L s h) (P 34 L s h) wt wt) := e28_31
theorem g28_35 : exq sa F N S rt cd28 P Q 35 L st h = (tR st fun a s => optW (hO h a 2) (fun fs => optW (fs[12]?) (fun v => P 38 L (v :: s) h) wt) wt) := e28_35
theorem g28_40 : exq sa F N S rt cd28 P Q 40 L st h = (tI st fun v s => tI s fun i s => tR s fun a s => optW (hI h a) (fun q => ixW i q.1 (fun k => P 41 L s (hS h a (.inl (0, q.1, .inl (upd q.2 k v))))) wt) wt) := e28_40
theorem g28_45 : exq sa F N S rt cd28 P Q 45 L st h = (tR st fun a s => optW (hO h a 2) (fun fs => optW (fs[12]?) (fun v => P 48 L (v :: s) h) wt) wt) := e28_45
theorem g28_49 : exq sa F N S rt cd28 P Q 49 L st h = (aldW sa st h (fun v s => P 50 L (.int v :: s) h) wt) := e28_49
theorem g28_51 : exq sa F N S rt cd28 P Q 51 L st h = (tI st fun b s => tI s fun a s => brW (a = b) (P 54 L s h) (P 70 L s h) wt wt) := e28_51
theorem g28_55 : exq sa F N S rt cd28 P Q 55 L st h = (tR st fun a s => optW (hO h a 2) (fun fs => optW (fs[10]?) (fun v => P 58 L (v :: s) h) wt) wt) := e28_55
theorem g28_59 : exq sa F N S rt cd28 P Q 59 L st h = (aldW sa st h (fun v s => P 60 L (.int v :: s) h) wt) := e28_59
theorem g28_60 : exq sa F N S rt cd28 P Q 60 L st h = (tI st fun a s => brW (0 < a) (P 70 L s h) (P 63 L s h) wt wt) := e28_60
theorem g28_64 : exq sa F N S rt cd28 P Q 64 L st h = (tR st fun a s => optW (hO h a 2) (fun fs => optW (fs[12]?) (fun v => P 67 L (v :: s) h) wt) wt) := e28_64
theorem g28_69 : exq sa F N S rt cd28 P Q 69 L st h = (tI st fun v s => tI s fun i s => tR s fun a s => optW (hI h a) (fun q => ixW i q.1 (fun k => P 70 L s (hS h a (.inl (0, q.1, .inl (upd q.2 k v))))) wt) wt) := e28_69
theorem g28_71 : exq sa F N S rt cd28 P Q 71 L st h = (tR st fun a s => optW (hO h a 2) (fun fs => optW (fs[12]?) (fun v => P 74 L (v :: s) h) wt) wt) := e28_71
theorem g28_75 : exq sa F N S rt cd28 P Q 75 L st h = (aldW sa st h (fun v s => P 76 L (.int v :: s) h) wt) := e28_75
theorem g28_77 : exq sa F N S rt cd28 P Q 77 L st h = (tI st fun b s => tI s fun a s => brW (a = b) (P 80 L s h) (P 93 L s h) wt wt) := e28_77
theorem g28_81 : exq sa F N S rt cd28 P Q 81 L st h = (tR st fun a s => optW (hO h a 2) (fun fs => optW (fs[10]?) (fun v => P 84 L (v :: s) h) wt) wt) := e28_81
theorem g28_86 : exq sa F N S rt cd28 P Q 86 L st h = (aldW sa st h (fun v s => P 87 L (.int v :: s) h) wt) := e28_86
theorem g28_89 : exq sa F N S rt cd28 P Q 89 L st h = (tI st fun v s => tI s fun i s => tR s fun a s => optW (hI h a) (fun q => ixW i q.1 (fun k => P 90 L s (hS h a (.inl (0, q.1, .inl (upd q.2 k v))))) wt) wt) := e28_89
theorem g28_94 : exq sa F N S rt cd28 P Q 94 L st h = (tR st fun a s => optW (hO h a 2) (fun fs => optW (fs[12]?) (fun v => P 97 L (v :: s) h) wt) wt) := e28_94
theorem g28_98 : exq sa F N S rt cd28 P Q 98 L st h = (aldW sa st h (fun v s => P 99 L (.int v :: s) h) wt) := e28_98
theorem g28_100 : exq sa F N S rt cd28 P Q 100 L st h = (tI st fun b s => tI s fun a s => brW (a = b) (P 103 L s h) (P 113 L s h) wt wt) := e28_100
theorem g28_104 : exq sa F N S rt cd28 P Q 104 L st h = (tR st fun a s => optW (hO h a 2) (fun fs => optW (fs[10]?) (fun v => P 107 L (v :: s) h) wt) wt) := e28_104
theorem g28_109 : exq sa F N S rt cd28 P Q 109 L st h = (aldW sa st h (fun v s => P 110 L (.int v :: s) h) wt) := e28_109
theorem g28_112 : exq sa F N S rt cd28 P Q 112 L st h = (tI st fun v s => tI s fun i s => tR s fun a s => optW (hI h a) (fun q => ixW i q.1 (fun k => P 113 L s (hS h a (.inl (0, q.1, .inl (upd q.2 k v))))) wt) wt) := e28_112
theorem g29_1 : exq sa F N S rt cd29 P Q 1 L st h = (tR st fun a s => optW (hO h a 2) (fun fs => optW (fs[5]?) (fun v => P 4 L (v :: s) h) wt) wt) := e29_1
theorem g29_5 : exq sa F N S rt cd29 P Q 5 L st h = (aldW sa st h (fun v s => P 6 L (.int v :: s) h) wt) := e29_5
theorem g29_6 : exq sa F N S rt cd29 P Q 6 L st h = (tI st fun a s => brW (a ≤ 0) (P 45 L s h) (P 9 L s h) wt wt) := e29_6
theorem g29_10 : exq sa F N S rt cd29 P Q 10 L st h = (tR st fun a s => optW (hO h a 2) (fun fs => optW (fs[6]?) (fun v => P 13 L (v :: s) h) wt) wt) := e29_10
theorem g29_18 : exq sa F N S rt cd29 P Q 18 L st h = (ivVW F 33 2 2 st h (fun r s h' => P 21 L (pu r s) h') wt) := e29_18
theorem g29_21 : exq sa F N S rt cd29 P Q 21 L st h = (ivVW F 31 3 2 st h (fun r s h' => P 24 L (pu r s) h') wt) := e29_21
theorem g29_24 : exq sa F N S rt cd29 P Q 24 L st h = (tI st fun v s => tI s fun i s => tR s fun a s => optW (hI h a) (fun q => ixW i q.1 (fun k => P 25 L s (hS h a (.inl (0, q.1, .inl (upd q.2 k v))))) wt) wt) := e29_24
theorem g29_27 : exq sa F N S rt cd29 P Q 27 L st h = (ivVW F 37 2 2 st h (fun r s h' => P 30 L (pu r s) h') wt) := e29_27
theorem g29_34 : exq sa F N S rt cd29 P Q 34 L st h = (tI st fun b s => tI s fun a s => brW (a = b) (P 45 L s h) (P 37 L s h) wt wt) := e29_34
theorem g29_40 : exq sa F N S rt cd29 P Q 40 L st h = (ivVW F 30 3 2 st h (fun r s h' => P 43 L (pu r s) h') wt) := e29_40
theorem g29_46 : exq sa F N S rt cd29 P Q 46 L st h = (tR st fun a s => optW (hO h a 2) (fun fs => optW (fs[8]?) (fun v => P 49 L (v :: s) h) wt) wt) := e29_46
theorem g29_51 : exq sa F N S rt cd29 P Q 51 L st h = (aldW sa st h (fun v s => P 52 L (.int v :: s) h) wt) := e29_51
theorem g29_54 : exq sa F N S rt cd29 P Q 54 L st h = (tI st fun v s => tI s fun i s => tR s fun a s => optW (hI h a) (fun q => ixW i q.1 (fun k => P 55 L s (hS h a (.inl (0, q.1, .inl (upd q.2 k v))))) wt) wt) := e29_54
theorem g29_56 : exq sa F N S rt cd29 P Q 56 L st h = (tR st fun a s => optW (hO h a 2) (fun fs => optW (fs[8]?) (fun v => P 59 L (v :: s) h) wt) wt) := e29_56
theorem g29_60 : exq sa F N S rt cd29 P Q 60 L st h = (aldW sa st h (fun v s => P 61 L (.int v :: s) h) wt) := e29_60
theorem g29_62 : exq sa F N S rt cd29 P Q 62 L st h = (tR st fun a s => optW (hO h a 2) (fun fs => optW (fs[1]?) (fun v => P 65 L (v :: s) h) wt) wt) := e29_62
theorem g29_65 : exq sa F N S rt cd29 P Q 65 L st h = (tI st fun b s => tI s fun a s => brW (a < b) (P 82 L s h) (P 68 L s h) wt wt) := e29_65
theorem g29_69 : exq sa F N S rt cd29 P Q 69 L st h = (tR st fun a s => optW (hO h a 2) (fun fs => optW (fs[7]?) (fun v => P 72 L (v :: s) h) wt) wt) := e29_69
theorem g29_74 : exq sa F N S rt cd29 P Q 74 L st h = (tI st fun v s => tI s fun i s => tR s fun a s => optW (hI h a) (fun q => ixW i q.1 (fun k => P 75 L s (hS h a (.inl (0, q.1, .inl (upd q.2 k v))))) wt) wt) := e29_74
theorem g29_76 : exq sa F N S rt cd29 P Q 76 L st h = (tR st fun a s => optW (hO h a 2) (fun fs => optW (fs[8]?) (fun v => P 79 L (v :: s) h) wt) wt) := e29_76
theorem g29_81 : exq sa F N S rt cd29 P Q 81 L st h = (tI st fun v s => tI s fun i s => tR s fun a s => optW (hI h a) (fun q => ixW i q.1 (fun k => P 82 L s (hS h a (.inl (0, q.1, .inl (upd q.2 k v))))) wt) wt) := e29_81
theorem g30_2 : exq sa F N S rt cd30 P Q 2 L st h = (tR st fun a s => optW (hO h a 2) (fun fs => optW (fs[13]?) (fun v => P 5 L (v :: s) h) wt) wt) := e30_2
theorem g30_9 : exq sa F N S rt cd30 P Q 9 L st h = (pfdW st h 2 13 0 (fun s h' => P 12 L s h') wt) := e30_9
theorem g30_13 : exq sa F N S rt cd30 P Q 13 L st h = (tR st fun a s => optW (hO h a 2) (fun fs => optW (fs[5]?) (fun v => P 16 L (v :: s) h) wt) wt) := e30_13
theorem g30_19 : exq sa F N S rt cd30 P Q 19 L st h = (tR st fun a s => optW (hO h a 2) (fun fs => optW (fs[5]?) (fun v => P 22 L (v :: s) h) wt) wt) := e30_19
theorem g30_23 : exq sa F N S rt cd30 P Q 23 L st h = (aldW sa st h (fun v s => P 24 L (.int v :: s) h) wt) := e30_23
theorem g30_25 : exq sa F N S rt cd30 P Q 25 L st h = (tR st fun a s => optW (hO h a 2) (fun fs => optW (fs[11]?) (fun v => P 28 L (v :: s) h) wt) wt) := e30_25
theorem g30_29 : exq sa F N S rt cd30 P Q 29 L st h = (aldW sa st h (fun v s => P 30 L (.int v :: s) h) wt) := e30_29
theorem g30_34 : exq sa F N S rt cd30 P Q 34 L st h = (tI st fun v s => tI s fun i s => tR s fun a s => optW (hI h a) (fun q => ixW i q.1 (fun k => P 35 L s (hS h a (.inl (0, q.1, .inl (upd q.2 k v))))) wt) wt) := e30_34
theorem g30_36 : exq sa F N S rt cd30 P Q 36 L st h = (tR st fun a s => optW (hO h a 2) (fun fs => optW (fs[8]?) (fun v => P 39 L (v :: s) h) wt) wt) := e30_36
theorem g30_41 : exq sa F N S rt cd30 P Q 41 L st h = (tI st fun v s => tI s fun i s => tR s fun a s => optW (hI h a) (fun q => ixW i q.1 (fun k => P 42 L s (hS h a (.inl (0, q.1, .inl (upd q.2 k v))))) wt) wt) := e30_41
theorem g30_44 : exq sa F N S rt cd30 P Q 44 L st h = (tR st fun a s => optW (hO h a 2) (fun fs => optW (fs[14]?) (fun v => P 47 L (v :: s) h) wt) wt) := e30_44
theorem g30_50 : exq sa F N S rt cd30 P Q 50 L st h = (tI st fun a s => brW (a = 0) (P 53 L s h) (P 62 L s h) wt wt) := e30_50
theorem g30_54 : exq sa F N S rt cd30 P Q 54 L st h = (tR st fun a s => optW (hO h a 2) (fun fs => optW (fs[11]?) (fun v => P 57 L (v :: s) h) wt) wt) := e30_54
theorem g30_58 : exq sa F N S rt cd30 P Q 58 L st h = (aldW sa st h (fun v s => P 59 L (.int v :: s) h) wt) := e30_58
theorem g30_63 : exq sa F N S rt cd30 P Q 63 L st h = (tR st fun a s => optW (hO h a 2) (fun fs => optW (fs[11]?) (fun v => P 66 L (v :: s) h) wt) wt) := e30_63
theorem g30_67 : exq sa F N S rt cd30 P Q 67 L st h = (aldW sa st h (fun v s => P 68 L (.int v :: s) h) wt) := e30_67
theorem g30_70 : exq sa F N S rt cd30 P Q 70 L st h = (pfdW st h 2 14 0 (fun s h' => P 73 L s h') wt) := e30_70
theorem g31_1 : exq sa F N S rt cd31 P Q 1 L st h = (tR st fun a s => optW (hO h a 2) (fun fs => optW (fs[6]?) (fun v => P 4 L (v :: s) h) wt) wt) := e31_1
theorem g31_5 : exq sa F N S rt cd31 P Q 5 L st h = (aldW sa st h (fun v s => P 6 L (.int v :: s) h) wt) := e31_5
theorem g31_8 : exq sa F N S rt cd31 P Q 8 L st h = (tR st fun a s => optW (hO h a 2) (fun fs => optW (fs[4]?) (fun v => P 11 L (v :: s) h) wt) wt) := e31_8
theorem g31_12 : exq sa F N S rt cd31 P Q 12 L st h = (aldW sa st h (fun v s => P 13 L (.int v :: s) h) wt) := e31_12
theorem g31_52 : exq sa F N S rt cd31 P Q 52 L st h = (ivVW F 32 4 2 st h (fun r s h' => P 55 L (pu r s) h') wt) := e31_52
theorem g31_60 : exq sa F N S rt cd31 P Q 60 L st h = (ivVW F 32 4 2 st h (fun r s h' => P 63 L (pu r s) h') wt) := e31_60
theorem g31_66 : exq sa F N S rt cd31 P Q 66 L st h = (tR st fun a s => optW (hO h a 2) (fun fs => optW (fs[0]?) (fun v => P 69 L (v :: s) h) wt) wt) := e31_66
theorem g31_71 : exq sa F N S rt cd31 P Q 71 L st h = (tI st fun b s => tI s fun a s => brW (b ≤ a) (P 80 L s h) (P 74 L s h) wt wt) := e31_71
theorem g31_83 : exq sa F N S rt cd31 P Q 83 L st h = (tI st fun a s => brW (a ≤ 0) (P 92 L s h) (P 86 L s h) wt wt) := e31_83
theorem g32_3 : exq sa F N S rt cd32 P Q 3 L st h = (tI st fun b s => tI s fun a s => brW (a = b) (P 6 L s h) (P 8 L s h) wt wt) := e32_3
theorem g32_9 : exq sa F N S rt cd32 P Q 9 L st h = (tR st fun a s => optW (hO h a 2) (fun fs => optW (fs[10]?) (fun v => P 12 L (v :: s) h) wt) wt) := e32_9
theorem g32_13 : exq sa F N S rt cd32 P Q 13 L st h = (aldW sa st h (fun v s => P 14 L (.int v :: s) h) wt) := e32_13
theorem g33_1 : exq sa F N S rt cd33 P Q 1 L st h = (tR st fun a s => optW (hO h a 2) (fun fs => optW (fs[4]?) (fun v => P 4 L (v :: s) h) wt) wt) := e33_1
theorem g33_5 : exq sa F N S rt cd33 P Q 5 L st h = (aldW sa st h (fun v s => P 6 L (.int v :: s) h) wt) := e33_5
theorem g33_34 : exq sa F N S rt cd33 P Q 34 L st h = (tR st fun a s => optW (hO h a 2) (fun fs => optW (fs[6]?) (fun v => P 37 L (v :: s) h) wt) wt) := e33_34
theorem g33_38 : exq sa F N S rt cd33 P Q 38 L st h = (aldW sa st h (fun v s => P 39 L (.int v :: s) h) wt) := e33_38
theorem g33_39 : exq sa F N S rt cd33 P Q 39 L st h = (ivVW F 35 2 2 st h (fun r s h' => P 42 L (pu r s) h') wt) := e33_39
theorem g33_45 : exq sa F N S rt cd33 P Q 45 L st h = (tR st fun a s => optW (hO h a 2) (fun fs => optW (fs[6]?) (fun v => P 48 L (v :: s) h) wt) wt) := e33_45
theorem g33_49 : exq sa F N S rt cd33 P Q 49 L st h = (aldW sa st h (fun v s => P 50 L (.int v :: s) h) wt) := e33_49
theorem g33_50 : exq sa F N S rt cd33 P Q 50 L st h = (ivVW F 36 2 2 st h (fun r s h' => P 53 L (pu r s) h') wt) := e33_50
theorem g34_1 : exq sa F N S rt cd34 P Q 1 L st h = (tR st fun a s => optW (hO h a 2) (fun fs => optW (fs[10]?) (fun v => P 4 L (v :: s) h) wt) wt) := e34_1
theorem g34_5 : exq sa F N S rt cd34 P Q 5 L st h = (aldW sa st h (fun v s => P 6 L (.int v :: s) h) wt) := e34_5
theorem g35_11 : exq sa F N S rt cd35 P Q 11 L st h = (tR st fun a s => optW (hO h a 2) (fun fs => optW (fs[9]?) (fun v => P 14 L (v :: s) h) wt) wt) := e35_11
theorem g35_14 : exq sa F N S rt cd35 P Q 14 L st h = (tI st fun b s => tI s fun a s => brW (b ≤ a) (P 64 L s h) (P 17 L s h) wt wt) := e35_14
theorem g35_18 : exq sa F N S rt cd35 P Q 18 L st h = (tR st fun a s => optW (hO h a 2) (fun fs => optW (fs[10]?) (fun v => P 21 L (v :: s) h) wt) wt) := e35_18
theorem g35_23 : exq sa F N S rt cd35 P Q 23 L st h = (aldW sa st h (fun v s => P 24 L (.int v :: s) h) wt) := e35_23
theorem g35_34 : exq sa F N S rt cd35 P Q 34 L st h = (ivVW F 20 2 2 st h (fun r s h' => P 37 L (pu r s) h') wt) := e35_34
theorem g35_37 : exq sa F N S rt cd35 P Q 37 L st h = (tI st fun a s => brW (a = 0) (P 40 L s h) (P 58 L s h) wt wt) := e35_37
theorem g35_43 : exq sa F N S rt cd35 P Q 43 L st h = (tI st fun b s => tI s fun a s => brW (a = b) (P 52 L s h) (P 46 L s h) wt wt) := e35_43
theorem g35_49 : exq sa F N S rt cd35 P Q 49 L st h = (tI st fun b s => tI s fun a s => brW (b ≤ a) (P 58 L s h) (P 52 L s h) wt wt) := e35_49
theorem g36_14 : exq sa F N S rt cd36 P Q 14 L st h = (tR st fun a s => optW (hO h a 2) (fun fs => optW (fs[9]?) (fun v => P 17 L (v :: s) h) wt) wt) := e36_14
theorem g36_17 : exq sa F N S rt cd36 P Q 17 L st h = (tI st fun b s => tI s fun a s => brW (b ≤ a) (P 94 L s h) (P 20 L s h) wt wt) := e36_17
theorem g36_21 : exq sa F N S rt cd36 P Q 21 L st h = (tR st fun a s => optW (hO h a 2) (fun fs => optW (fs[10]?) (fun v => P 24 L (v :: s) h) wt) wt) := e36_21
theorem g36_26 : exq sa F N S rt cd36 P Q 26 L st h = (aldW sa st h (fun v s => P 27 L (.int v :: s) h) wt) := e36_26
theorem g36_37 : exq sa F N S rt cd36 P Q 37 L st h = (ivVW F 20 2 2 st h (fun r s h' => P 40 L (pu r s) h') wt) := e36_37
theorem g36_40 : exq sa F N S rt cd36 P Q 40 L st h = (tI st fun a s => brW (a = 0) (P 43 L s h) (P 88 L s h) wt wt) := e36_40
theorem g36_44 : exq sa F N S rt cd36 P Q 44 L st h = (tR st fun a s => optW (hO h a 2) (fun fs => optW (fs[11]?) (fun v => P 47 L (v :: s) h) wt) wt) := e36_44
theorem g36_49 : exq sa F N S rt cd36 P Q 49 L st h = (aldW sa st h (fun v s => P 50 L (.int v :: s) h) wt) := e36_49
theorem g36_52 : exq sa F N S rt cd36 P Q 52 L st h = (tI st fun b s => tI s fun a s => brW (b < a) (P 73 L s h) (P 55 L s h) wt wt) := e36_52
theorem g36_56 : exq sa F N S rt cd36 P Q 56 L st h = (tR st fun a s => optW (hO h a 2) (fun fs => optW (fs[11]?) (fun v => P 59 L (v :: s) h) wt) wt) := e36_56
theorem g36_61 : exq sa F N S rt cd36 P Q 61 L st h = (aldW sa st h (fun v s => P 62 L (.int v :: s) h) wt) := e36_61
theorem g36_64 : exq sa F N S rt cd36 P Q 64 L st h = (tI st fun b s => tI s fun a s => brW (a = b) (P 67 L s h) (P 88 L s h) wt wt) := e36_64
theorem g36_70 : exq sa F N S rt cd36 P Q 70 L st h = (tI st fun b s => tI s fun a s => brW (b ≤ a) (P 88 L s h) (P 73 L s h) wt wt) := e36_70
theorem g36_80 : exq sa F N S rt cd36 P Q 80 L st h = (tR st fun a s => optW (hO h a 2) (fun fs => optW (fs[11]?) (fun v => P 83 L (v :: s) h) wt) wt) := e36_80
theorem g36_85 : exq sa F N S rt cd36 P Q 85 L st h = (aldW sa st h (fun v s => P 86 L (.int v :: s) h) wt) := e36_85
theorem g37_5 : exq sa F N S rt cd37 P Q 5 L st h = (ivVW F 38 2 2 st h (fun r s h' => P 8 L (pu r s) h') wt) := e37_5
theorem g37_15 : exq sa F N S rt cd37 P Q 15 L st h = (tR st fun a s => optW (hO h a 2) (fun fs => optW (fs[9]?) (fun v => P 18 L (v :: s) h) wt) wt) := e37_15
theorem g37_18 : exq sa F N S rt cd37 P Q 18 L st h = (tI st fun b s => tI s fun a s => brW (b ≤ a) (P 88 L s h) (P 21 L s h) wt wt) := e37_18
theorem g37_24 : exq sa F N S rt cd37 P Q 24 L st h = (ivVW F 20 2 2 st h (fun r s h' => P 27 L (pu r s) h') wt) := e37_24
theorem g37_27 : exq sa F N S rt cd37 P Q 27 L st h = (tI st fun a s => brW (a = 0) (P 30 L s h) (P 82 L s h) wt wt) := e37_27
theorem g37_31 : exq sa F N S rt cd37 P Q 31 L st h = (tR st fun a s => optW (hO h a 2) (fun fs => optW (fs[10]?) (fun v => P 34 L (v :: s) h) wt) wt) := e37_31
theorem g37_36 : exq sa F N S rt cd37 P Q 36 L st h = (aldW sa st h (fun v s => P 37 L (.int v :: s) h) wt) := e37_36
theorem g37_38 : exq sa F N S rt cd37 P Q 38 L st h = (tR st fun a s => optW (hO h a 2) (fun fs => optW (fs[6]?) (fun v => P 41 L (v :: s) h) wt) wt) := e37_38
theorem g37_42 : exq sa F N S rt cd37 P Q 42 L st h = (aldW sa st h (fun v s => P 43 L (.int v :: s) h) wt) := e37_42
theorem g37_43 : exq sa F N S rt cd37 P Q 43 L st h = (tI st fun b s => tI s fun a s => brW (a = b) (P 46 L s h) (P 82 L s h) wt wt) := e37_43
theorem g37_47 : exq sa F N S rt cd37 P Q 47 L st h = (tR st fun a s => optW (hO h a 2) (fun fs => optW (fs[11]?) (fun v => P 50 L (v :: s) h) wt) wt) := e37_47
theorem g37_52 : exq sa F N S rt cd37 P Q 52 L st h = (aldW sa st h (fun v s => P 53 L (.int v :: s) h) wt) := e37_52
theorem g37_54 : exq sa F N S rt cd37 P Q 54 L st h = (tI st fun b s => tI s fun a s => brW (b < a) (P 82 L s h) (P 57 L s h) wt wt) := e37_54
theorem g37_60 : exq sa F N S rt cd37 P Q 60 L st h = (tI st fun b s => tI s fun a s => brW (a = b) (P 79 L s h) (P 63 L s h) wt wt) := e37_60
theorem g37_64 : exq sa F N S rt cd37 P Q 64 L st h = (tR st fun a s => optW (hO h a 2) (fun fs => optW (fs[11]?) (fun v => P 67 L (v :: s) h) wt) wt) := e37_64
theorem g37_69 : exq sa F N S rt cd37 P Q 69 L st h = (aldW sa st h (fun v s => P 70 L (.int v :: s) h) wt) := e37_69
theorem g37_71 : exq sa F N S rt cd37 P Q 71 L st h = (tR st fun a s => optW (hO h a 2) (fun fs => optW (fs[11]?) (fun v => P 74 L (v :: s) h) wt) wt) := e37_71
theorem g37_75 : exq sa F N S rt cd37 P Q 75 L st h = (aldW sa st h (fun v s => P 76 L (.int v :: s) h) wt) := e37_75
theorem g37_76 : exq sa F N S rt cd37 P Q 76 L st h = (tI st fun b s => tI s fun a s => brW (a ≤ b) (P 82 L s h) (P 79 L s h) wt wt) := e37_76
theorem g38_1 : exq sa F N S rt cd38 P Q 1 L st h = (tR st fun a s => optW (hO h a 2) (fun fs => optW (fs[4]?) (fun v => P 4 L (v :: s) h) wt) wt) := e38_1
theorem g38_5 : exq sa F N S rt cd38 P Q 5 L st h = (aldW sa st h (fun v s => P 6 L (.int v :: s) h) wt) := e38_5
theorem g38_40 : exq sa F N S rt cd38 P Q 40 L st h = (tR st fun a s => optW (hO h a 2) (fun fs => optW (fs[5]?) (fun v => P 43 L (v :: s) h) wt) wt) := e38_40
theorem g38_44 : exq sa F N S rt cd38 P Q 44 L st h = (aldW sa st h (fun v s => P 45 L (.int v :: s) h) wt) := e38_44
theorem g38_49 : exq sa F N S rt cd38 P Q 49 L st h = (tR st fun a s => optW (hO h a 2) (fun fs => optW (fs[5]?) (fun v => P 52 L (v :: s) h) wt) wt) := e38_49
theorem g38_53 : exq sa F N S rt cd38 P Q 53 L st h = (aldW sa st h (fun v s => P 54 L (.int v :: s) h) wt) := e38_53
theorem g39_12 : exq sa F N S rt cd39 P Q 12 L st h = (pfdW st h 3 0 2 (fun s h' => P 15 L s h') wt) := e39_12
theorem g39_23 : exq sa F N S rt cd39 P Q 23 L st h = (pfdW st h 3 1 2 (fun s h' => P 26 L s h') wt) := e39_23
theorem g39_31 : exq sa F N S rt cd39 P Q 31 L st h = (pfdW st h 3 2 2 (fun s h' => P 34 L s h') wt) := e39_31
theorem g39_39 : exq sa F N S rt cd39 P Q 39 L st h = (pfdW st h 3 3 2 (fun s h' => P 42 L s h') wt) := e39_39
theorem g40_1 : exq sa F N S rt cd40 P Q 1 L st h = (tR st fun a s => optW (hO h a 3) (fun fs => optW (fs[0]?) (fun v => P 4 L (v :: s) h) wt) wt) := e40_1
theorem g40_5 : exq sa F N S rt cd40 P Q 5 L st h = (ivVW F 15 2 2 st h (fun r s h' => P 8 L (pu r s) h') wt) := e40_5
theorem g40_9 : exq sa F N S rt cd40 P Q 9 L st h = (tR st fun a s => optW (hO h a 3) (fun fs => optW (fs[0]?) (fun v => P 12 L (v :: s) h) wt) wt) := e40_9
theorem g40_13 : exq sa F N S rt cd40 P Q 13 L st h = (ivVW F 27 2 2 st h (fun r s h' => P 16 L (pu r s) h') wt) := e40_13
theorem g40_17 : exq sa F N S rt cd40 P Q 17 L st h = (tR st fun a s => optW (hO h a 3) (fun fs => optW (fs[0]?) (fun v => P 20 L (v :: s) h) wt) wt) := e40_17
theorem g41_1 : exq sa F N S rt cd41 P Q 1 L st h = (tR st fun a s => optW (hO h a 3) (fun fs => optW (fs[0]?) (fun v => P 4 L (v :: s) h) wt) wt) := e41_1
theorem g41_5 : exq sa F N S rt cd41 P Q 5 L st h = (ivVW F 15 2 2 st h (fun r s h' => P 8 L (pu r s) h') wt) := e41_5
theorem g41_11 : exq sa F N S rt cd41 P Q 11 L st h = (ivVW F 42 3 3 st h (fun r s h' => P 14 L (pu r s) h') wt) := e41_11
theorem g42_5 : exq sa F N S rt cd42 P Q 5 L st h = (tI st fun b s => tI s fun a s => brW (b < a) (P 35 L s h) (P 8 L s h) wt wt) := e42_5
theorem g42_9 : exq sa F N S rt cd42 P Q 9 L st h = (tR st fun a s => optW (hO h a 3) (fun fs => optW (fs[0]?) (fun v => P 12 L (v :: s) h) wt) wt) := e42_9
theorem g42_13 : exq sa F N S rt cd42 P Q 13 L st h = (ivVW F 20 2 2 st h (fun r s h' => P 16 L (pu r s) h') wt) := e42_13
theorem g42_16 : exq sa F N S rt cd42 P Q 16 L st h = (tI st fun a s => brW (a = 0) (P 21 L s h) (P 19 L s h) wt wt) := e42_16
theorem g42_22 : exq sa F N S rt cd42 P Q 22 L st h = (tR st fun a s => optW (hO h a 3) (fun fs => optW (fs[0]?) (fun v => P 25 L (v :: s) h) wt) wt) := e42_22
theorem g42_26 : exq sa F N S rt cd42 P Q 26 L st h = (ivVW F 27 2 2 st h (fun r s h' => P 29 L (pu r s) h') wt) := e42_26
theorem g43_1 : exq sa F N S rt cd43 P Q 1 L st h = (tR st fun a s => optW (hO h a 3) (fun fs => optW (fs[0]?) (fun v => P 4 L (v :: s) h) wt) wt) := e43_1
theorem g43_5 : exq sa F N S rt cd43 P Q 5 L st h = (ivVW F 15 2 2 st h (fun r s h' => P 8 L (pu r s) h') wt) := e43_5
theorem g43_13 : exq sa F N S rt cd43 P Q 13 L st h = (tI st fun b s => tI s fun a s => brW (b < a) (P 45 L s h) (P 16 L s h) wt wt) := e43_13
theorem g43_17 : exq sa F N S rt cd43 P Q 17 L st h = (tR st fun a s => optW (hO h a 3) (fun fs => optW (fs[0]?) (fun v => P 20 L (v :: s) h) wt) wt) := e43_17
theorem g43_20 : exq sa F N S rt cd43 P Q 20 L st h = (tR st fun a s => optW (hO h a 2) (fun fs => optW (fs[7]?) (fun v => P 23 L (v :: s) h) wt) wt) := e43_20
theorem g43_24 : exq sa F N S rt cd43 P Q 24 L st h = (aldW sa st h (fun v s => P 25 L (.int v :: s) h) wt) := e43_24
theorem g43_26 : exq sa F N S rt cd43 P Q 26 L st h = (tI st fun b s => tI s fun a s => brW (a = b) (P 29 L s h) (P 31 L s h) wt wt) := e43_26
theorem g43_32 : exq sa F N S rt cd43 P Q 32 L st h = (tR st fun a s => optW (hO h a 3) (fun fs => optW (fs[0]?) (fun v => P 35 L (v :: s) h) wt) wt) := e43_32
theorem g43_36 : exq sa F N S rt cd43 P Q 36 L st h = (ivVW F 27 2 2 st h (fun r s h' => P 39 L (pu r s) h') wt) := e43_36
theorem g44_1 : exq sa F N S rt cd44 P Q 1 L st h = (tR st fun a s => optW (hO h a 3) (fun fs => optW (fs[0]?) (fun v => P 4 L (v :: s) h) wt) wt) := e44_1
theorem g44_5 : exq sa F N S rt cd44 P Q 5 L st h = (ivVW F 15 2 2 st h (fun r s h' => P 8 L (pu r s) h') wt) := e44_5
theorem g44_13 : exq sa F N S rt cd44 P Q 13 L st h = (tI st fun b s => tI s fun a s => brW (b < a) (P 80 L s h) (P 16 L s h) wt wt) := e44_13
theorem g44_17 : exq sa F N S rt cd44 P Q 17 L st h = (tR st fun a s => optW (hO h a 3) (fun fs => optW (fs[0]?) (fun v => P 20 L (v :: s) h) wt) wt) := e44_17
theorem g44_21 : exq sa F N S rt cd44 P Q 21 L st h = (ivVW F 27 2 2 st h (fun r s h' => P 24 L (pu r s) h') wt) := e44_21
theorem g44_30 : exq sa F N S rt cd44 P Q 30 L st h = (tR st fun a s => optW (hO h a 2) (fun fs => optW (fs[9]?) (fun v => P 33 L (v :: s) h) wt) wt) := e44_30
theorem g44_33 : exq sa F N S rt cd44 P Q 33 L st h = (tI st fun b s => tI s fun a s => brW (b ≤ a) (P 74 L s h) (P 36 L s h) wt wt) := e44_33
theorem g44_37 : exq sa F N S rt cd44 P Q 37 L st h = (tR st fun a s => optW (hO h a 3) (fun fs => optW (fs[0]?) (fun v => P 40 L (v :: s) h) wt) wt) := e44_37
theorem g44_42 : exq sa F N S rt cd44 P Q 42 L st h = (ivVW F 20 2 2 st h (fun r s h' => P 45 L (pu r s) h') wt) := e44_42
theorem g44_45 : exq sa F N S rt cd44 P Q 45 L st h = (tI st fun a s => brW (a = 0) (P 68 L s h) (P 48 L s h) wt wt) := e44_45
theorem g44_51 : exq sa F N S rt cd44 P Q 51 L st h = (ivVW F 20 2 2 st h (fun r s h' => P 54 L (pu r s) h') wt) := e44_51
theorem g44_54 : exq sa F N S rt cd44 P Q 54 L st h = (tI st fun a s => brW (a = 0) (P 57 L s h) (P 68 L s h) wt wt) := e44_54
theorem g44_58 : exq sa F N S rt cd44 P Q 58 L st h = (tI st fun a s => brW (a = 0) (P 61 L s h) (P 66 L s h) wt wt) := e44_58
theorem g45_2 : exq sa F N S rt cd45 P Q 2 L st h = (ivVW F 22 2 2 st h (fun r s h' => P 5 L (pu r s) h') wt) := e45_2
theorem g45_20 : exq sa F N S rt cd45 P Q 20 L st h = (tI st fun b s => tI s fun a s => brW (b ≤ a) (P 87 L s h) (P 23 L s h) wt wt) := e45_20
theorem g45_30 : exq sa F N S rt cd45 P Q 30 L st h = (tI st fun a s => brW (a = 0) (P 33 L s h) (P 81 L s h) wt wt) := e45_30
theorem g45_38 : exq sa F N S rt cd45 P Q 38 L st h = (ivVW F 46 4 3 st h (fun r s h' => P 41 L (pu r s) h') wt) := e45_38
theorem g45_41 : exq sa F N S rt cd45 P Q 41 L st h = (ivVW F 21 1 2 st h (fun r s h' => P 44 L (pu r s) h') wt) := e45_41
theorem g45_50 : exq sa F N S rt cd45 P Q 50 L st h = (tI st fun b s => tI s fun a s => brW (b < a) (P 73 L s h) (P 53 L s h) wt wt) := e45_50
theorem g45_57 : exq sa F N S rt cd45 P Q 57 L st h = (tI st fun b s => tI s fun a s => brW (a = b) (P 60 L s h) (P 81 L s h) wt wt) := e45_57
theorem g45_62 : exq sa F N S rt cd45 P Q 62 L st h = (ivSW F 225 1 st h (fun r s h' => P 65 L (pu r s) h') wt) := e45_62
theorem g45_67 : exq sa F N S rt cd45 P Q 67 L st h = (ivSW F 225 1 st h (fun r s h' => P 70 L (pu r s) h') wt) := e45_67
theorem g45_70 : exq sa F N S rt cd45 P Q 70 L st h = (tI st fun b s => tI s fun a s => brW (b ≤ a) (P 81 L s h) (P 73 L s h) wt wt) := e45_70
theorem g45_88 : exq sa F N S rt cd45 P Q 88 L st h = (tI st fun a s => brW (a = 0) (P 91 L s h) (P 96 L s h) wt wt) := e45_88
theorem g46_1 : exq sa F N S rt cd46 P Q 1 L st h = (tR st fun a s => optW (hO h a 3) (fun fs => optW (fs[0]?) (fun v => P 4 L (v :: s) h) wt) wt) := e46_1
theorem g46_5 : exq sa F N S rt cd46 P Q 5 L st h = (ivVW F 15 2 2 st h (fun r s h' => P 8 L (pu r s) h') wt) := e46_5
theorem g46_9 : exq sa F N S rt cd46 P Q 9 L st h = (tR st fun a s => optW (hO h a 3) (fun fs => optW (fs[0]?) (fun v => P 12 L (v :: s) h) wt) wt) := e46_9
theorem g46_14 : exq sa F N S rt cd46 P Q 14 L st h = (ivVW F 25 3 2 st h (fun r s h' => P 17 L (pu r s) h') wt) := e46_14
theorem g46_18 : exq sa F N S rt cd46 P Q 18 L st h = (tR st fun a s => optW (hO h a 3) (fun fs => optW (fs[0]?) (fun v => P 21 L (v :: s) h) wt) wt) := e46_18
theorem g46_22 : exq sa F N S rt cd46 P Q 22 L st h = (ivVW F 27 2 2 st h (fun r s h' => P 25 L (pu r s) h') wt) := e46_22
theorem g46_26 : exq sa F N S rt cd46 P Q 26 L st h = (tR st fun a s => optW (hO h a 3) (fun fs => optW (fs[0]?) (fun v => P 29 L (v :: s) h) wt) wt) := e46_26
theorem g47_9 : exq sa F N S rt cd47 P Q 9 L st h = (tR st fun a s => optW (hO h a 3) (fun fs => optW (fs[1]?) (fun v => P 12 L (v :: s) h) wt) wt) := e47_9
theorem g47_13 : exq sa F N S rt cd47 P Q 13 L st h = (ivVW F 15 2 2 st h (fun r s h' => P 16 L (pu r s) h') wt) := e47_13
theorem g47_23 : exq sa F N S rt cd47 P Q 23 L st h = (tI st fun b s => tI s fun a s => brW (b < a) (P 97 L s h) (P 26 L s h) wt wt) := e47_23
theorem g47_27 : exq sa F N S rt cd47 P Q 27 L st h = (tR st fun a s => optW (hO h a 3) (fun fs => optW (fs[0]?) (fun v => P 30 L (v :: s) h) wt) wt) := e47_27
theorem g47_31 : exq sa F N S rt cd47 P Q 31 L st h = (tR st fun a s => optW (hO h a 3) (fun fs => optW (fs[1]?) (fun v => P 34 L (v :: s) h) wt) wt) := e47_31
theorem g47_34 : exq sa F N S rt cd47 P Q 34 L st h = (ivVW F 15 2 2 st h (fun r s h' => P 37 L (pu r s) h') wt) := e47_34
theorem g47_38 : exq sa F N S rt cd47 P Q 38 L st h = (tR st fun a s => optW (hO h a 3) (fun fs => optW (fs[0]?) (fun v => P 41 L (v :: s) h) wt) wt) := e47_38
theorem g47_42 : exq sa F N S rt cd47 P Q 42 L st h = (ivVW F 23 2 2 st h (fun r s h' => P 45 L (pu r s) h') wt) := e47_42
theorem g47_49 : exq sa F N S rt cd47 P Q 49 L st h = (ivVW F 42 3 3 st h (fun r s h' => P 52 L (pu r s) h') wt) := e47_49
theorem g47_58 : exq sa F N S rt cd47 P Q 58 L st h = (tI st fun b s => tI s fun a s => brW (a = b) (P 83 L s h) (P 61 L s h) wt wt) := e47_58
theorem g47_65 : exq sa F N S rt cd47 P Q 65 L st h = (tI st fun b s => tI s fun a s => brW (a = b) (P 75 L s h) (P 68 L s h) wt wt) := e47_65
theorem g47_72 : exq sa F N S rt cd47 P Q 72 L st h = (tI st fun b s => tI s fun a s => brW (b ≤ a) (P 83 L s h) (P 75 L s h) wt wt) := e47_72
theorem g47_84 : exq sa F N S rt cd47 P Q 84 L st h = (tR st fun a s => optW (hO h a 3) (fun fs => optW (fs[1]?) (fun v => P 87 L (v :: s) h) wt) wt) := e47_84
theorem g47_88 : exq sa F N S rt cd47 P Q 88 L st h = (ivVW F 27 2 2 st h (fun r s h' => P 91 L (pu r s) h') wt) := e47_88
theorem g47_99 : exq sa F N S rt cd47 P Q 99 L st h = (tI st fun a s => brW (a = 0) (P 102 L s h) (P 107 L s h) wt wt) := e47_99
theorem g48_10 : exq sa F N S rt cd48 P Q 10 L st h = (tI st fun b s => tI s fun a s => brW (b < a) (P 71 L s h) (P 13 L s h) wt wt) := e48_10
theorem g48_14 : exq sa F N S rt cd48 P Q 14 L st h = (tR st fun a s => optW (hO h a 3) (fun fs => optW (fs[0]?) (fun v => P 17 L (v :: s) h) wt) wt) := e48_14
theorem g48_18 : exq sa F N S rt cd48 P Q 18 L st h = (ivVW F 15 2 2 st h (fun r s h' => P 21 L (pu r s) h') wt) := e48_18
theorem g48_22 : exq sa F N S rt cd48 P Q 22 L st h = (tR st fun a s => optW (hO h a 3) (fun fs => optW (fs[0]?) (fun v => P 25 L (v :: s) h) wt) wt) := e48_22
theorem g48_25 : exq sa F N S rt cd48 P Q 25 L st h = (tR st fun a s => optW (hO h a 2) (fun fs => optW (fs[5]?) (fun v => P 28 L (v :: s) h) wt) wt) := e48_25
theorem g48_31 : exq sa F N S rt cd48 P Q 31 L st h = (tI st fun v s => tI s fun i s => tR s fun a s => optW (hI h a) (fun q => ixW i q.1 (fun k => P 32 L s (hS h a (.inl (0, q.1, .inl (upd q.2 k v))))) wt) wt) := e48_31
theorem g48_33 : exq sa F N S rt cd48 P Q 33 L st h = (tR st fun a s => optW (hO h a 3) (fun fs => optW (fs[0]?) (fun v => P 36 L (v :: s) h) wt) wt) := e48_33
theorem g48_38 : exq sa F N S rt cd48 P Q 38 L st h = (ivVW F 27 2 2 st h (fun r s h' => P 41 L (pu r s) h') wt) := e48_38
theorem g48_44 : exq sa F N S rt cd48 P Q 44 L st h = (tR st fun a s => optW (hO h a 3) (fun fs => optW (fs[0]?) (fun v => P 47 L (v :: s) h) wt) wt) := e48_44
theorem g48_48 : exq sa F N S rt cd48 P Q 48 L st h = (ivVW F 20 2 2 st h (fun r s h' => P 51 L (pu r s) h') wt) := e48_48
theorem g48_51 : exq sa F N S rt cd48 P Q 51 L st h = (tI st fun a s => brW (a = 0) (P 61 L s h) (P 54 L s h) wt wt) := e48_51
theorem g49_2 : exq sa F N S rt cd49 P Q 2 L st h = (ivVW F 22 2 2 st h (fun r s h' => P 5 L (pu r s) h') wt) := e49_2
theorem g49_14 : exq sa F N S rt cd49 P Q 14 L st h = (tI st fun b s => tI s fun a s => brW (b ≤ a) (P 65 L s h) (P 17 L s h) wt wt) := e49_14
theorem g49_24 : exq sa F N S rt cd49 P Q 24 L st h = (tI st fun a s => brW (a = 0) (P 27 L s h) (P 59 L s h) wt wt) := e49_24
theorem g49_29 : exq sa F N S rt cd49 P Q 29 L st h = (ivSW F 225 1 st h (fun r s h' => P 32 L (pu r s) h') wt) := e49_29
theorem g49_33 : exq sa F N S rt cd49 P Q 33 L st h = (tI st fun b s => tI s fun a s => brW (b < a) (P 59 L s h) (P 36 L s h) wt wt) := e49_33
theorem g49_37 : exq sa F N S rt cd49 P Q 37 L st h = (tR st fun a s => optW (hO h a 3) (fun fs => optW (fs[2]?) (fun v => P 40 L (v :: s) h) wt) wt) := e49_37
theorem g49_47 : exq sa F N S rt cd49 P Q 47 L st h = (ivVW F 46 4 3 st h (fun r s h' => P 50 L (pu r s) h') wt) := e49_47
theorem g49_50 : exq sa F N S rt cd49 P Q 50 L st h = (tR st fun a s => optW (hO h a 2) (fun fs => optW (fs[14]?) (fun v => P 53 L (v :: s) h) wt) wt) := e49_50
theorem g49_54 : exq sa F N S rt cd49 P Q 54 L st h = (tR st fun a s => optW (hO h a 2) (fun fs => optW (fs[14]?) (fun v => P 57 L (v :: s) h) wt) wt) := e49_54
theorem g49_58 : exq sa F N S rt cd49 P Q 58 L st h = (tI st fun v s => tI s fun i s => tR s fun a s => optW (hI h a) (fun q => ixW i q.1 (fun k => P 59 L s (hS h a (.inl (0, q.1, .inl (upd q.2 k v))))) wt) wt) := e49_58
theorem g49_66 : exq sa F N S rt cd49 P Q 66 L st h = (tR st fun a s => optW (hO h a 3) (fun fs => optW (fs[2]?) (fun v => P 69 L (v :: s) h) wt) wt) := e49_66
theorem g49_74 : exq sa F N S rt cd49 P Q 74 L st h = (ivSW F 50 5 st h (fun r s h' => P 77 L (pu r s) h') wt) := e49_74
theorem g50_3 : exq sa F N S rt cd50 P Q 3 L st h = (tI st fun b s => tI s fun a s => brW (a < b) (P 10 L s h) (P 6 L s h) wt wt) := e50_3
theorem g50_8 : exq sa F N S rt cd50 P Q 8 L st h = (aldW sa st h (fun v s => P 9 L (.int v :: s) h) wt) := e50_8
theorem g50_18 : exq sa F N S rt cd50 P Q 18 L st h = (ivSW F 50 5 st h (fun r s h' => P 21 L (pu r s) h') wt) := e50_18
theorem g50_31 : exq sa F N S rt cd50 P Q 31 L st h = (tI st fun b s => tI s fun a s => brW (b ≤ a) (P 96 L s h) (P 34 L s h) wt wt) := e50_31
theorem g50_44 : exq sa F N S rt cd50 P Q 44 L st h = (tI st fun a s => brW (a = 0) (P 90 L s h) (P 47 L s h) wt wt) := e50_44
theorem g50_60 : exq sa F N S rt cd50 P Q 60 L st h = (ivSW F 50 5 st h (fun r s h' => P 63 L (pu r s) h') wt) := e50_60
theorem g50_68 : exq sa F N S rt cd50 P Q 68 L st h = (tI st fun a s => brW (a = 0) (P 71 L s h) (P 81 L s h) wt wt) := e50_68
theorem g51_2 : exq sa F N S rt cd51 P Q 2 L st h = (pfdW st h 3 4 0 (fun s h' => P 5 L s h') wt) := e51_2
theorem g51_8 : exq sa F N S rt cd51 P Q 8 L st h = (pfdW st h 3 5 0 (fun s h' => P 11 L s h') wt) := e51_8
theorem g51_14 : exq sa F N S rt cd51 P Q 14 L st h = (tR st fun a s => optW (hO h a 3) (fun fs => optW (fs[3]?) (fun v => P 17 L (v :: s) h) wt) wt) := e51_14
end GL
