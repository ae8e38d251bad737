/-! what each instruction does, held back -/
section GL
variable {sa : aS} {F : aF} {N S : Nat} {rt : Option FieldType} {P : aK} {Q : aQ} {L : aL} {st : List Value} {h : aH}
theorem g194_2 : exq sa F N S rt cd194 P Q 2 L st h = (ivVW F 163 2 7 st h (fun r s h' => P 5 L (pu r s) h') wt) := e194_2
theorem g194_5 : exq sa F N S rt cd194 P Q 5 L st h = (tI st fun a s => brW (a = 0) (P 8 L s h) (P 11 L s h) wt wt) := e194_5
theorem g194_12 : exq sa F N S rt cd194 P Q 12 L st h = (ivVW F 189 1 7 st h (fun r s h' => P 15 L (pu r s) h') wt) := e194_12
theorem g194_20 : exq sa F N S rt cd194 P Q 20 L st h = (tI st fun b s => tI s fun a s => brW (b < a) (P 52 L s h) (P 23 L s h) wt wt) := e194_20
theorem g194_24 : exq sa F N S rt cd194 P Q 24 L st h = (tR st fun a s => optW (hO h a 7) (fun fs => optW (fs[18]?) (fun v => P 27 L (v :: s) h) wt) wt) := e194_24
theorem g194_28 : exq sa F N S rt cd194 P Q 28 L st h = (aldW sa st h (fun v s => P 29 L (.int v :: s) h) wt) := e194_28
theorem g194_30 : exq sa F N S rt cd194 P Q 30 L st h = (ivSW F 136 2 st h (fun r s h' => P 33 L (pu r s) h') wt) := e194_30
theorem g194_33 : exq sa F N S rt cd194 P Q 33 L st h = (tI st fun a s => brW (a = 0) (P 38 L s h) (P 36 L s h) wt wt) := e194_33
theorem g194_40 : exq sa F N S rt cd194 P Q 40 L st h = (tR st fun a s => optW (hO h a 7) (fun fs => optW (fs[18]?) (fun v => P 43 L (v :: s) h) wt) wt) := e194_40
theorem g194_43 : exq sa F N S rt cd194 P Q 43 L st h = (ivVW F 173 2 7 st h (fun r s h' => P 46 L (pu r s) h') wt) := e194_43
theorem g195_2 : exq sa F N S rt cd195 P Q 2 L st h = (ivVW F 162 2 7 st h (fun r s h' => P 5 L (pu r s) h') wt) := e195_2
theorem g195_5 : exq sa F N S rt cd195 P Q 5 L st h = (tI st fun a s => brW (a = 0) (P 8 L s h) (P 11 L s h) wt wt) := e195_5
theorem g195_12 : exq sa F N S rt cd195 P Q 12 L st h = (ivVW F 189 1 7 st h (fun r s h' => P 15 L (pu r s) h') wt) := e195_12
theorem g195_20 : exq sa F N S rt cd195 P Q 20 L st h = (tI st fun b s => tI s fun a s => brW (b < a) (P 52 L s h) (P 23 L s h) wt wt) := e195_20
theorem g195_24 : exq sa F N S rt cd195 P Q 24 L st h = (tR st fun a s => optW (hO h a 7) (fun fs => optW (fs[18]?) (fun v => P 27 L (v :: s) h) wt) wt) := e195_24
theorem g195_31 : exq sa F N S rt cd195 P Q 31 L st h = (aldW sa st h (fun v s => P 32 L (.int v :: s) h) wt) := e195_31
theorem g195_33 : exq sa F N S rt cd195 P Q 33 L st h = (tI st fun b s => tI s fun a s => brW (a = b) (P 36 L s h) (P 38 L s h) wt wt) := e195_33
theorem g195_40 : exq sa F N S rt cd195 P Q 40 L st h = (tR st fun a s => optW (hO h a 7) (fun fs => optW (fs[18]?) (fun v => P 43 L (v :: s) h) wt) wt) := e195_40
theorem g195_43 : exq sa F N S rt cd195 P Q 43 L st h = (ivVW F 173 2 7 st h (fun r s h' => P 46 L (pu r s) h') wt) := e195_43
theorem g196_4 : exq sa F N S rt cd196 P Q 4 L st h = (ivSW F 135 3 st h (fun r s h' => P 7 L (pu r s) h') wt) := e196_4
theorem g196_7 : exq sa F N S rt cd196 P Q 7 L st h = (ivVW F 180 2 7 st h (fun r s h' => P 10 L (pu r s) h') wt) := e196_7
theorem g196_12 : exq sa F N S rt cd196 P Q 12 L st h = (tI st fun a s => brW (0 ≤ a) (P 17 L s h) (P 15 L s h) wt wt) := e196_12
theorem g196_18 : exq sa F N S rt cd196 P Q 18 L st h = (ivVW F 189 1 7 st h (fun r s h' => P 21 L (pu r s) h') wt) := e196_18
theorem g196_26 : exq sa F N S rt cd196 P Q 26 L st h = (tI st fun b s => tI s fun a s => brW (b < a) (P 86 L s h) (P 29 L s h) wt wt) := e196_26
theorem g196_31 : exq sa F N S rt cd196 P Q 31 L st h = (tR st fun a s => optW (hO h a 7) (fun fs => optW (fs[18]?) (fun v => P 34 L (v :: s) h) wt) wt) := e196_31
theorem g196_34 : exq sa F N S rt cd196 P Q 34 L st h = (ivVW F 173 2 7 st h (fun r s h' => P 37 L (pu r s) h') wt) := e196_34
theorem g196_38 : exq sa F N S rt cd196 P Q 38 L st h = (tR st fun a s => optW (hO h a 7) (fun fs => optW (fs[18]?) (fun v => P 41 L (v :: s) h) wt) wt) := e196_38
theorem g196_42 : exq sa F N S rt cd196 P Q 42 L st h = (aldW sa st h (fun v s => P 43 L (.int v :: s) h) wt) := e196_42
theorem g196_44 : exq sa F N S rt cd196 P Q 44 L st h = (tR st fun a s => optW (hO h a 7) (fun fs => optW (fs[17]?) (fun v => P 47 L (v :: s) h) wt) wt) := e196_44
theorem g196_48 : exq sa F N S rt cd196 P Q 48 L st h = (aldW sa st h (fun v s => P 49 L (.int v :: s) h) wt) := e196_48
theorem g196_56 : exq sa F N S rt cd196 P Q 56 L st h = (tI st fun a s => brW (a = 0) (P 80 L s h) (P 59 L s h) wt wt) := e196_56
theorem g196_61 : exq sa F N S rt cd196 P Q 61 L st h = (tI st fun b s => tI s fun a s => brW (a = b) (P 64 L s h) (P 68 L s h) wt wt) := e196_61
theorem g196_76 : exq sa F N S rt cd196 P Q 76 L st h = (ivSW F 137 1 st h (fun r s h' => P 79 L (pu r s) h') wt) := e196_76
theorem g197_5 : exq sa F N S rt cd197 P Q 5 L st h = (ivSW F 135 3 st h (fun r s h' => P 8 L (pu r s) h') wt) := e197_5
theorem g197_8 : exq sa F N S rt cd197 P Q 8 L st h = (tI st fun a s => brW (a = 0) (P 24 L s h) (P 11 L s h) wt wt) := e197_8
theorem g197_14 : exq sa F N S rt cd197 P Q 14 L st h = (ivSW F 135 3 st h (fun r s h' => P 17 L (pu r s) h') wt) := e197_14
theorem g197_17 : exq sa F N S rt cd197 P Q 17 L st h = (tI st fun a s => brW (a = 0) (P 24 L s h) (P 20 L s h) wt wt) := e197_17
theorem g197_25 : exq sa F N S rt cd197 P Q 25 L st h = (ivVW F 180 2 7 st h (fun r s h' => P 28 L (pu r s) h') wt) := e197_25
theorem g197_30 : exq sa F N S rt cd197 P Q 30 L st h = (tI st fun a s => brW (0 ≤ a) (P 35 L s h) (P 33 L s h) wt wt) := e197_30
theorem g197_37 : exq sa F N S rt cd197 P Q 37 L st h = (tR st fun a s => optW (hO h a 7) (fun fs => optW (fs[17]?) (fun v => P 40 L (v :: s) h) wt) wt) := e197_37
theorem g197_41 : exq sa F N S rt cd197 P Q 41 L st h = (ivVW F 175 3 7 st h (fun r s h' => P 44 L (pu r s) h') wt) := e197_41
theorem g197_59 : exq sa F N S rt cd197 P Q 59 L st h = (tI st fun b s => tI s fun a s => brW (b < a) (P 201 L s h) (P 62 L s h) wt wt) := e197_59
theorem g197_69 : exq sa F N S rt cd197 P Q 69 L st h = (tI st fun a s => brW (a = 0) (P 72 L s h) (P 195 L s h) wt wt) := e197_69
theorem g197_73 : exq sa F N S rt cd197 P Q 73 L st h = (ivVW F 189 1 7 st h (fun r s h' => P 76 L (pu r s) h') wt) := e197_73
theorem g197_82 : exq sa F N S rt cd197 P Q 82 L st h = (tR st fun a s => optW (hO h a 7) (fun fs => optW (fs[16]?) (fun v => P 85 L (v :: s) h) wt) wt) := e197_82
theorem g197_86 : exq sa F N S rt cd197 P Q 86 L st h = (aldW sa st h (fun v s => P 87 L (.int v :: s) h) wt) := e197_86
theorem g197_87 : exq sa F N S rt cd197 P Q 87 L st h = (tI st fun b s => tI s fun a s => brW (b ≤ a) (P 116 L s h) (P 90 L s h) wt wt) := e197_87
theorem g197_94 : exq sa F N S rt cd197 P Q 94 L st h = (ivSW F 136 2 st h (fun r s h' => P 97 L (pu r s) h') wt) := e197_94
theorem g197_97 : exq sa F N S rt cd197 P Q 97 L st h = (tI st fun a s => brW (a = 0) (P 110 L s h) (P 100 L s h) wt wt) := e197_97
theorem g197_102 : exq sa F N S rt cd197 P Q 102 L st h = (tR st fun a s => optW (hO h a 7) (fun fs => optW (fs[18]?) (fun v => P 105 L (v :: s) h) wt) wt) := e197_102
theorem g197_107 : exq sa F N S rt cd197 P Q 107 L st h = (ivVW F 176 3 7 st h (fun r s h' => P 110 L (pu r s) h') wt) := e197_107
theorem g197_118 : exq sa F N S rt cd197 P Q 118 L st h = (ivVW F 190 2 7 st h (fun r s h' => P 121 L (pu r s) h') wt) := e197_118
theorem g197_123 : exq sa F N S rt cd197 P Q 123 L st h = (tR st fun a s => optW (hO h a 7) (fun fs => optW (fs[18]?) (fun v => P 126 L (v :: s) h) wt) wt) := e197_123
theorem g197_127 : exq sa F N S rt cd197 P Q 127 L st h = (aldW sa st h (fun v s => P 128 L (.int v :: s) h) wt) := e197_127
theorem g197_128 : exq sa F N S rt cd197 P Q 128 L st h = (ivVW F 174 2 7 st h (fun r s h' => P 131 L (pu r s) h') wt) := e197_128
theorem g197_137 : exq sa F N S rt cd197 P Q 137 L st h = (tI st fun b s => tI s fun a s => brW (b < a) (P 160 L s h) (P 140 L s h) wt wt) := e197_137
theorem g197_144 : exq sa F N S rt cd197 P Q 144 L st h = (tI st fun b s => tI s fun a s => brW (a = b) (P 147 L s h) (P 164 L s h) wt wt) := e197_144
theorem g197_149 : exq sa F N S rt cd197 P Q 149 L st h = (ivSW F 137 1 st h (fun r s h' => P 152 L (pu r s) h') wt) := e197_149
theorem g197_154 : exq sa F N S rt cd197 P Q 154 L st h = (ivSW F 137 1 st h (fun r s h' => P 157 L (pu r s) h') wt) := e197_154
theorem g197_157 : exq sa F N S rt cd197 P Q 157 L st h = (tI st fun b s => tI s fun a s => brW (b ≤ a) (P 164 L s h) (P 160 L s h) wt wt) := e197_157
theorem g197_169 : exq sa F N S rt cd197 P Q 169 L st h = (tI st fun a s => brW (a = 0) (P 177 L s h) (P 172 L s h) wt wt) := e197_169
theorem g197_183 : exq sa F N S rt cd197 P Q 183 L st h = (tI st fun a s => brW (a = 0) (P 191 L s h) (P 186 L s h) wt wt) := e197_183
theorem g197_202 : exq sa F N S rt cd197 P Q 202 L st h = (tI st fun a s => brW (a = 0) (P 205 L s h) (P 210 L s h) wt wt) := e197_202
theorem g198_1 : exq sa F N S rt cd198 P Q 1 L st h = (ivVW F 189 1 7 st h (fun r s h' => P 4 L (pu r s) h') wt) := e198_1
theorem g198_11 : exq sa F N S rt cd198 P Q 11 L st h = (tI st fun b s => tI s fun a s => brW (b < a) (P 59 L s h) (P 14 L s h) wt wt) := e198_11
theorem g198_15 : exq sa F N S rt cd198 P Q 15 L st h = (tR st fun a s => optW (hO h a 7) (fun fs => optW (fs[18]?) (fun v => P 18 L (v :: s) h) wt) wt) := e198_15
theorem g198_19 : exq sa F N S rt cd198 P Q 19 L st h = (aldW sa st h (fun v s => P 20 L (.int v :: s) h) wt) := e198_19
theorem g198_21 : exq sa F N S rt cd198 P Q 21 L st h = (ivSW F 136 2 st h (fun r s h' => P 24 L (pu r s) h') wt) := e198_21
theorem g198_24 : exq sa F N S rt cd198 P Q 24 L st h = (tI st fun a s => brW (a = 0) (P 30 L s h) (P 27 L s h) wt wt) := e198_24
theorem g198_33 : exq sa F N S rt cd198 P Q 33 L st h = (tI st fun b s => tI s fun a s => brW (a = b) (P 36 L s h) (P 45 L s h) wt wt) := e198_33
theorem g198_38 : exq sa F N S rt cd198 P Q 38 L st h = (tR st fun a s => optW (hO h a 7) (fun fs => optW (fs[18]?) (fun v => P 41 L (v :: s) h) wt) wt) := e198_38
theorem g198_42 : exq sa F N S rt cd198 P Q 42 L st h = (ivVW F 176 3 7 st h (fun r s h' => P 45 L (pu r s) h') wt) := e198_42
theorem g198_47 : exq sa F N S rt cd198 P Q 47 L st h = (tR st fun a s => optW (hO h a 7) (fun fs => optW (fs[18]?) (fun v => P 50 L (v :: s) h) wt) wt) := e198_47
theorem g198_50 : exq sa F N S rt cd198 P Q 50 L st h = (ivVW F 173 2 7 st h (fun r s h' => P 53 L (pu r s) h') wt) := e198_50
theorem g199_2 : exq sa F N S rt cd199 P Q 2 L st h = (ivVW F 162 2 7 st h (fun r s h' => P 5 L (pu r s) h') wt) := e199_2
theorem g199_5 : exq sa F N S rt cd199 P Q 5 L st h = (tI st fun a s => brW (a = 0) (P 25 L s h) (P 8 L s h) wt wt) := e199_5
theorem g199_10 : exq sa F N S rt cd199 P Q 10 L st h = (ivVW F 163 2 7 st h (fun r s h' => P 13 L (pu r s) h') wt) := e199_10
theorem g199_13 : exq sa F N S rt cd199 P Q 13 L st h = (tI st fun a s => brW (a = 0) (P 25 L s h) (P 16 L s h) wt wt) := e199_13
theorem g199_19 : exq sa F N S rt cd199 P Q 19 L st h = (ivSW F 135 3 st h (fun r s h' => P 22 L (pu r s) h') wt) := e199_19
theorem g199_22 : exq sa F N S rt cd199 P Q 22 L st h = (tI st fun a s => brW (a = 0) (P 25 L s h) (P 28 L s h) wt wt) := e199_22
theorem g199_29 : exq sa F N S rt cd199 P Q 29 L st h = (tR st fun a s => optW (hO h a 7) (fun fs => optW (fs[17]?) (fun v => P 32 L (v :: s) h) wt) wt) := e199_29
theorem g199_36 : exq sa F N S rt cd199 P Q 36 L st h = (aldW sa st h (fun v s => P 37 L (.int v :: s) h) wt) := e199_36
theorem g199_37 : exq sa F N S rt cd199 P Q 37 L st h = (tI st fun a s => brW (a = 0) (P 43 L s h) (P 40 L s h) wt wt) := e199_37
theorem g199_58 : exq sa F N S rt cd199 P Q 58 L st h = (tI st fun b s => tI s fun a s => brW (b < a) (P 126 L s h) (P 61 L s h) wt wt) := e199_58
theorem g199_66 : exq sa F N S rt cd199 P Q 66 L st h = (ivVW F 198 4 7 st h (fun r s h' => P 69 L (pu r s) h') wt) := e199_66
theorem g199_75 : exq sa F N S rt cd199 P Q 75 L st h = (tI st fun b s => tI s fun a s => brW (a = b) (P 89 L s h) (P 78 L s h) wt wt) := e199_75
theorem g199_82 : exq sa F N S rt cd199 P Q 82 L st h = (tI st fun b s => tI s fun a s => brW (b ≤ a) (P 89 L s h) (P 85 L s h) wt wt) := e199_82
theorem g199_94 : exq sa F N S rt cd199 P Q 94 L st h = (tI st fun a s => brW (a = 0) (P 102 L s h) (P 97 L s h) wt wt) := e199_94
theorem g199_108 : exq sa F N S rt cd199 P Q 108 L st h = (tI st fun a s => brW (a = 0) (P 116 L s h) (P 111 L s h) wt wt) := e199_108
theorem g199_130 : exq sa F N S rt cd199 P Q 130 L st h = (tI st fun b s => tI s fun a s => brW (a = b) (P 133 L s h) (P 138 L s h) wt wt) := e199_130
theorem g199_139 : exq sa F N S rt cd199 P Q 139 L st h = (tI st fun a s => brW (a = 0) (P 142 L s h) (P 147 L s h) wt wt) := e199_139
theorem g200_2 : exq sa F N S rt cd200 P Q 2 L st h = (ivVW F 162 2 7 st h (fun r s h' => P 5 L (pu r s) h') wt) := e200_2
theorem g200_5 : exq sa F N S rt cd200 P Q 5 L st h = (tI st fun a s => brW (a = 0) (P 26 L s h) (P 8 L s h) wt wt) := e200_5
theorem g200_10 : exq sa F N S rt cd200 P Q 10 L st h = (ivVW F 163 2 7 st h (fun r s h' => P 13 L (pu r s) h') wt) := e200_10
theorem g200_13 : exq sa F N S rt cd200 P Q 13 L st h = (tI st fun a s => brW (a = 0) (P 26 L s h) (P 16 L s h) wt wt) := e200_13
theorem g200_20 : exq sa F N S rt cd200 P Q 20 L st h = (ivSW F 135 3 st h (fun r s h' => P 23 L (pu r s) h') wt) := e200_20
theorem g200_23 : exq sa F N S rt cd200 P Q 23 L st h = (tI st fun a s => brW (a = 0) (P 26 L s h) (P 29 L s h) wt wt) := e200_23
theorem g200_30 : exq sa F N S rt cd200 P Q 30 L st h = (tR st fun a s => optW (hO h a 7) (fun fs => optW (fs[17]?) (fun v => P 33 L (v :: s) h) wt) wt) := e200_30
theorem g200_37 : exq sa F N S rt cd200 P Q 37 L st h = (aldW sa st h (fun v s => P 38 L (.int v :: s) h) wt) := e200_37
theorem g200_39 : exq sa F N S rt cd200 P Q 39 L st h = (tI st fun b s => tI s fun a s => brW (a = b) (P 42 L s h) (P 45 L s h) wt wt) := e200_39
theorem g200_55 : exq sa F N S rt cd200 P Q 55 L st h = (tI st fun b s => tI s fun a s => brW (b < a) (P 110 L s h) (P 58 L s h) wt wt) := e200_55
theorem g200_59 : exq sa F N S rt cd200 P Q 59 L st h = (ivVW F 189 1 7 st h (fun r s h' => P 62 L (pu r s) h') wt) := e200_59
theorem g200_63 : exq sa F N S rt cd200 P Q 63 L st h = (tR st fun a s => optW (hO h a 7) (fun fs => optW (fs[18]?) (fun v => P 66 L (v :: s) h) wt) wt) := e200_63
theorem g200_72 : exq sa F N S rt cd200 P Q 72 L st h = (tI st fun v s => tI s fun i s => tR s fun a s => optW (hI h a) (fun q => ixW i q.1 (fun k => P 73 L s (hS h a (.inl (0, q.1, .inl (upd q.2 k v))))) wt) wt) := e200_72
theorem g200_75 : exq sa F N S rt cd200 P Q 75 L st h = (ivVW F 190 2 7 st h (fun r s h' => P 78 L (pu r s) h') wt) := e200_75
theorem g200_81 : exq sa F N S rt cd200 P Q 81 L st h = (tR st fun a s => optW (hO h a 7) (fun fs => optW (fs[18]?) (fun v => P 84 L (v :: s) h) wt) wt) := e200_81
theorem g200_85 : exq sa F N S rt cd200 P Q 85 L st h = (aldW sa st h (fun v s => P 86 L (.int v :: s) h) wt) := e200_85
theorem g200_87 : exq sa F N S rt cd200 P Q 87 L st h = (ivSW F 136 2 st h (fun r s h' => P 90 L (pu r s) h') wt) := e200_87
theorem g200_90 : exq sa F N S rt cd200 P Q 90 L st h = (tI st fun a s => brW (a = 0) (P 100 L s h) (P 93 L s h) wt wt) := e200_90
theorem g201_4 : exq sa F N S rt cd201 P Q 4 L st h = (ivSW F 135 3 st h (fun r s h' => P 7 L (pu r s) h') wt) := e201_4
theorem g201_7 : exq sa F N S rt cd201 P Q 7 L st h = (tI st fun a s => brW (a = 0) (P 24 L s h) (P 10 L s h) wt wt) := e201_7
theorem g201_14 : exq sa F N S rt cd201 P Q 14 L st h = (ivSW F 135 3 st h (fun r s h' => P 17 L (pu r s) h') wt) := e201_14
theorem g201_17 : exq sa F N S rt cd201 P Q 17 L st h = (tI st fun a s => brW (a = 0) (P 24 L s h) (P 20 L s h) wt wt) := e201_17
theorem g201_25 : exq sa F N S rt cd201 P Q 25 L st h = (ivVW F 180 2 7 st h (fun r s h' => P 28 L (pu r s) h') wt) := e201_25
theorem g201_30 : exq sa F N S rt cd201 P Q 30 L st h = (tI st fun a s => brW (0 ≤ a) (P 35 L s h) (P 33 L s h) wt wt) := e201_30
theorem g201_37 : exq sa F N S rt cd201 P Q 37 L st h = (tR st fun a s => optW (hO h a 7) (fun fs => optW (fs[17]?) (fun v => P 40 L (v :: s) h) wt) wt) := e201_37
theorem g201_41 : exq sa F N S rt cd201 P Q 41 L st h = (ivVW F 175 3 7 st h (fun r s h' => P 44 L (pu r s) h') wt) := e201_41
theorem g201_53 : exq sa F N S rt cd201 P Q 53 L st h = (tI st fun b s => tI s fun a s => brW (b ≤ a) (P 125 L s h) (P 56 L s h) wt wt) := e201_53
theorem g201_57 : exq sa F N S rt cd201 P Q 57 L st h = (ivVW F 189 1 7 st h (fun r s h' => P 60 L (pu r s) h') wt) := e201_57
theorem g201_66 : exq sa F N S rt cd201 P Q 66 L st h = (tR st fun a s => optW (hO h a 7) (fun fs => optW (fs[16]?) (fun v => P 69 L (v :: s) h) wt) wt) := e201_66
theorem g201_70 : exq sa F N S rt cd201 P Q 70 L st h = (aldW sa st h (fun v s => P 71 L (.int v :: s) h) wt) := e201_70
theorem g201_71 : exq sa F N S rt cd201 P Q 71 L st h = (tI st fun b s => tI s fun a s => brW (b ≤ a) (P 103 L s h) (P 74 L s h) wt wt) := e201_71
theorem g201_81 : exq sa F N S rt cd201 P Q 81 L st h = (ivSW F 136 2 st h (fun r s h' => P 84 L (pu r s) h') wt) := e201_81
theorem g201_84 : exq sa F N S rt cd201 P Q 84 L st h = (tI st fun a s => brW (a = 0) (P 97 L s h) (P 87 L s h) wt wt) := e201_84
theorem g201_89 : exq sa F N S rt cd201 P Q 89 L st h = (tR st fun a s => optW (hO h a 7) (fun fs => optW (fs[18]?) (fun v => P 92 L (v :: s) h) wt) wt) := e201_89
theorem g201_94 : exq sa F N S rt cd201 P Q 94 L st h = (ivVW F 176 3 7 st h (fun r s h' => P 97 L (pu r s) h') wt) := e201_94
theorem g201_105 : exq sa F N S rt cd201 P Q 105 L st h = (ivVW F 190 2 7 st h (fun r s h' => P 108 L (pu r s) h') wt) := e201_105
theorem g201_109 : exq sa F N S rt cd201 P Q 109 L st h = (tR st fun a s => optW (hO h a 7) (fun fs => optW (fs[23]?) (fun v => P 112 L (v :: s) h) wt) wt) := e201_109
theorem g201_115 : exq sa F N S rt cd201 P Q 115 L st h = (tR st fun a s => optW (hO h a 7) (fun fs => optW (fs[19]?) (fun v => P 118 L (v :: s) h) wt) wt) := e201_115
theorem g201_118 : exq sa F N S rt cd201 P Q 118 L st h = (tI st fun v s => tI s fun i s => tR s fun a s => optW (hI h a) (fun q => ixW i q.1 (fun k => P 119 L s (hS h a (.inl (0, q.1, .inl (upd q.2 k v))))) wt) wt) := e201_118
theorem g201_132 : exq sa F N S rt cd201 P Q 132 L st h = (tI st fun a s => brW (a < 0) (P 289 L s h) (P 135 L s h) wt wt) := e201_132
theorem g201_142 : exq sa F N S rt cd201 P Q 142 L st h = (tI st fun b s => tI s fun a s => brW (b ≤ a) (P 283 L s h) (P 145 L s h) wt wt) := e201_142
theorem g201_146 : exq sa F N S rt cd201 P Q 146 L st h = (tR st fun a s => optW (hO h a 7) (fun fs => optW (fs[23]?) (fun v => P 149 L (v :: s) h) wt) wt) := e201_146
theorem g201_151 : exq sa F N S rt cd201 P Q 151 L st h = (aldW sa st h (fun v s => P 152 L (.int v :: s) h) wt) := e201_151
theorem g201_163 : exq sa F N S rt cd201 P Q 163 L st h = (tR st fun a s => optW (hO h a 7) (fun fs => optW (fs[16]?) (fun v => P 166 L (v :: s) h) wt) wt) := e201_163
theorem g201_167 : exq sa F N S rt cd201 P Q 167 L st h = (aldW sa st h (fun v s => P 168 L (.int v :: s) h) wt) := e201_167
theorem g201_168 : exq sa F N S rt cd201 P Q 168 L st h = (tI st fun b s => tI s fun a s => brW (b ≤ a) (P 268 L s h) (P 171 L s h) wt wt) := e201_168
theorem g201_175 : exq sa F N S rt cd201 P Q 175 L st h = (ivSW F 136 2 st h (fun r s h' => P 178 L (pu r s) h') wt) := e201_175
theorem g201_178 : exq sa F N S rt cd201 P Q 178 L st h = (tI st fun a s => brW (a = 0) (P 195 L s h) (P 181 L s h) wt wt) := e201_178
theorem g201_185 : exq sa F N S rt cd201 P Q 185 L st h = (ivSW F 136 2 st h (fun r s h' => P 188 L (pu r s) h') wt) := e201_185
theorem g201_188 : exq sa F N S rt cd201 P Q 188 L st h = (tI st fun a s => brW (a = 0) (P 191 L s h) (P 195 L s h) wt wt) := e201_188
theorem g201_200 : exq sa F N S rt cd201 P Q 200 L st h = (tI st fun a s => brW (a = 0) (P 218 L s h) (P 203 L s h) wt wt) := e201_200
theorem g201_204 : exq sa F N S rt cd201 P Q 204 L st h = (tR st fun a s => optW (hO h a 7) (fun fs => optW (fs[23]?) (fun v => P 207 L (v :: s) h) wt) wt) := e201_204
theorem g201_214 : exq sa F N S rt cd201 P Q 214 L st h = (aldW sa st h (fun v s => P 215 L (.int v :: s) h) wt) := e201_214
theorem g201_226 : exq sa F N S rt cd201 P Q 226 L st h = (tI st fun a s => brW (a = 0) (P 229 L s h) (P 246 L s h) wt wt) := e201_226
theorem g201_233 : exq sa F N S rt cd201 P Q 233 L st h = (tI st fun b s => tI s fun a s => brW (a ≤ b) (P 241 L s h) (P 236 L s h) wt wt) := e201_233
theorem g201_250 : exq sa F N S rt cd201 P Q 250 L st h = (tI st fun b s => tI s fun a s => brW (b ≤ a) (P 258 L s h) (P 253 L s h) wt wt) := e201_250
theorem g201_269 : exq sa F N S rt cd201 P Q 269 L st h = (tR st fun a s => optW (hO h a 7) (fun fs => optW (fs[23]?) (fun v => P 272 L (v :: s) h) wt) wt) := e201_269
theorem g201_276 : exq sa F N S rt cd201 P Q 276 L st h = (tI st fun v s => tI s fun i s => tR s fun a s => optW (hI h a) (fun q => ixW i q.1 (fun k => P 277 L s (hS h a (.inl (0, q.1, .inl (upd q.2 k v))))) wt) wt) := e201_276
theorem g201_290 : exq sa F N S rt cd201 P Q 290 L st h = (tR st fun a s => optW (hO h a 7) (fun fs => optW (fs[23]?) (fun v => P 293 L (v :: s) h) wt) wt) := e201_290
theorem g201_294 : exq sa F N S rt cd201 P Q 294 L st h = (aldW sa st h (fun v s => P 295 L (.int v :: s) h) wt) := e201_294
theorem g202_2 : exq sa F N S rt cd202 P Q 2 L st h = (ivVW F 164 2 7 st h (fun r s h' => P 5 L (pu r s) h') wt) := e202_2
theorem g202_5 : exq sa F N S rt cd202 P Q 5 L st h = (tI st fun a s => brW (a = 0) (P 17 L s h) (P 8 L s h) wt wt) := e202_5
theorem g202_11 : exq sa F N S rt cd202 P Q 11 L st h = (ivSW F 135 3 st h (fun r s h' => P 14 L (pu r s) h') wt) := e202_11
theorem g202_14 : exq sa F N S rt cd202 P Q 14 L st h = (tI st fun a s => brW (a = 0) (P 17 L s h) (P 20 L s h) wt wt) := e202_14
theorem g202_22 : exq sa F N S rt cd202 P Q 22 L st h = (tR st fun a s => optW (hO h a 7) (fun fs => optW (fs[17]?) (fun v => P 25 L (v :: s) h) wt) wt) := e202_22
theorem g202_27 : exq sa F N S rt cd202 P Q 27 L st h = (ivVW F 166 4 7 st h (fun r s h' => P 30 L (pu r s) h') wt) := e202_27
theorem g202_34 : exq sa F N S rt cd202 P Q 34 L st h = (tI st fun b s => tI s fun a s => brW (a = b) (P 37 L s h) (P 42 L s h) wt wt) := e202_34
theorem g202_43 : exq sa F N S rt cd202 P Q 43 L st h = (tI st fun a s => brW (a = 0) (P 46 L s h) (P 50 L s h) wt wt) := e202_43
theorem g202_51 : exq sa F N S rt cd202 P Q 51 L st h = (tR st fun a s => optW (hO h a 7) (fun fs => optW (fs[17]?) (fun v => P 54 L (v :: s) h) wt) wt) := e202_51
theorem g202_57 : exq sa F N S rt cd202 P Q 57 L st h = (aldW sa st h (fun v s => P 58 L (.int v :: s) h) wt) := e202_57
theorem g202_59 : exq sa F N S rt cd202 P Q 59 L st h = (ivSW F 165 2 st h (fun r s h' => P 62 L (pu r s) h') wt) := e202_59
theorem g203_10 : exq sa F N S rt cd203 P Q 10 L st h = (tI st fun b s => tI s fun a s => brW (b ≤ a) (P 60 L s h) (P 13 L s h) wt wt) := e203_10
theorem g203_15 : exq sa F N S rt cd203 P Q 15 L st h = (tR st fun a s => optW (hO h a 7) (fun fs => optW (fs[18]?) (fun v => P 18 L (v :: s) h) wt) wt) := e203_15
theorem g203_18 : exq sa F N S rt cd203 P Q 18 L st h = (ivVW F 173 2 7 st h (fun r s h' => P 21 L (pu r s) h') wt) := e203_18
theorem g203_23 : exq sa F N S rt cd203 P Q 23 L st h = (tI st fun a s => brW (a = 0) (P 51 L s h) (P 26 L s h) wt wt) := e203_23
theorem g203_27 : exq sa F N S rt cd203 P Q 27 L st h = (tR st fun a s => optW (hO h a 7) (fun fs => optW (fs[18]?) (fun v => P 30 L (v :: s) h) wt) wt) := e203_27
theorem g203_34 : exq sa F N S rt cd203 P Q 34 L st h = (aldW sa st h (fun v s => P 35 L (.int v :: s) h) wt) := e203_34
theorem g203_41 : exq sa F N S rt cd203 P Q 41 L st h = (ivVW F 143 3 7 st h (fun r s h' => P 44 L (pu r s) h') wt) := e203_41
theorem g203_44 : exq sa F N S rt cd203 P Q 44 L st h = (tI st fun b s => tI s fun a s => brW (a = b) (P 47 L s h) (P 51 L s h) wt wt) := e203_44
theorem g204_2 : exq sa F N S rt cd204 P Q 2 L st h = (ivVW F 162 2 7 st h (fun r s h' => P 5 L (pu r s) h') wt) := e204_2
theorem g204_5 : exq sa F N S rt cd204 P Q 5 L st h = (tI st fun a s => brW (a = 0) (P 44 L s h) (P 8 L s h) wt wt) := e204_5
theorem g204_11 : exq sa F N S rt cd204 P Q 11 L st h = (ivSW F 135 3 st h (fun r s h' => P 14 L (pu r s) h') wt) := e204_11
theorem g204_14 : exq sa F N S rt cd204 P Q 14 L st h = (tI st fun a s => brW (a = 0) (P 44 L s h) (P 17 L s h) wt wt) := e204_14
theorem g204_19 : exq sa F N S rt cd204 P Q 19 L st h = (ivVW F 162 2 7 st h (fun r s h' => P 22 L (pu r s) h') wt) := e204_19
theorem g204_22 : exq sa F N S rt cd204 P Q 22 L st h = (tI st fun a s => brW (a = 0) (P 44 L s h) (P 25 L s h) wt wt) := e204_22
theorem g204_27 : exq sa F N S rt cd204 P Q 27 L st h = (ivSW F 141 1 st h (fun r s h' => P 30 L (pu r s) h') wt) := e204_27
theorem g204_30 : exq sa F N S rt cd204 P Q 30 L st h = (tI st fun a s => brW (a = 0) (P 44 L s h) (P 33 L s h) wt wt) := e204_30
theorem g204_38 : exq sa F N S rt cd204 P Q 38 L st h = (ivSW F 135 3 st h (fun r s h' => P 41 L (pu r s) h') wt) := e204_38
theorem g204_41 : exq sa F N S rt cd204 P Q 41 L st h = (tI st fun a s => brW (a = 0) (P 44 L s h) (P 47 L s h) wt wt) := e204_41
theorem g204_48 : exq sa F N S rt cd204 P Q 48 L st h = (tR st fun a s => optW (hO h a 7) (fun fs => optW (fs[17]?) (fun v => P 51 L (v :: s) h) wt) wt) := e204_48
theorem g204_55 : exq sa F N S rt cd204 P Q 55 L st h = (aldW sa st h (fun v s => P 56 L (.int v :: s) h) wt) := e204_55
theorem g204_57 : exq sa F N S rt cd204 P Q 57 L st h = (tI st fun b s => tI s fun a s => brW (a = b) (P 60 L s h) (P 63 L s h) wt wt) := e204_57
theorem g204_64 : exq sa F N S rt cd204 P Q 64 L st h = (tR st fun a s => optW (hO h a 7) (fun fs => optW (fs[0]?) (fun v => P 67 L (v :: s) h) wt) wt) := e204_64
theorem g204_69 : exq sa F N S rt cd204 P Q 69 L st h = (aldW sa st h (fun v s => P 70 L (.int v :: s) h) wt) := e204_69
theorem g204_70 : exq sa F N S rt cd204 P Q 70 L st h = (tI st fun a s => brW (0 ≤ a) (P 79 L s h) (P 73 L s h) wt wt) := e204_70
theorem g204_75 : exq sa F N S rt cd204 P Q 75 L st h = (ivVW F 138 2 7 st h (fun r s h' => P 78 L (pu r s) h') wt) := e204_75
theorem g204_86 : exq sa F N S rt cd204 P Q 86 L st h = (ivVW F 142 4 7 st h (fun r s h' => P 89 L (pu r s) h') wt) := e204_86
theorem g204_89 : exq sa F N S rt cd204 P Q 89 L st h = (tI st fun a s => brW (a = 0) (P 92 L s h) (P 98 L s h) wt wt) := e204_89
theorem g204_94 : exq sa F N S rt cd204 P Q 94 L st h = (ivVW F 138 2 7 st h (fun r s h' => P 97 L (pu r s) h') wt) := e204_94
theorem g204_99 : exq sa F N S rt cd204 P Q 99 L st h = (tR st fun a s => optW (hO h a 7) (fun fs => optW (fs[16]?) (fun v => P 102 L (v :: s) h) wt) wt) := e204_99
theorem g204_105 : exq sa F N S rt cd204 P Q 105 L st h = (aldW sa st h (fun v s => P 106 L (.int v :: s) h) wt) := e204_105
theorem g204_112 : exq sa F N S rt cd204 P Q 112 L st h = (tI st fun a s => brW (a = 0) (P 115 L s h) (P 119 L s h) wt wt) := e204_112
theorem g204_125 : exq sa F N S rt cd204 P Q 125 L st h = (tI st fun a s => brW (a = 0) (P 128 L s h) (P 132 L s h) wt wt) := e204_125
theorem g204_134 : exq sa F N S rt cd204 P Q 134 L st h = (tI st fun b s => tI s fun a s => brW (b < a) (P 220 L s h) (P 137 L s h) wt wt) := e204_134
theorem g204_138 : exq sa F N S rt cd204 P Q 138 L st h = (ivVW F 189 1 7 st h (fun r s h' => P 141 L (pu r s) h') wt) := e204_138
theorem g204_142 : exq sa F N S rt cd204 P Q 142 L st h = (tR st fun a s => optW (hO h a 7) (fun fs => optW (fs[16]?) (fun v => P 145 L (v :: s) h) wt) wt) := e204_142
theorem g204_149 : exq sa F N S rt cd204 P Q 149 L st h = (tI st fun a s => brW (a = 0) (P 152 L s h) (P 157 L s h) wt wt) := e204_149
theorem g204_159 : exq sa F N S rt cd204 P Q 159 L st h = (tI st fun v s => tI s fun i s => tR s fun a s => optW (hI h a) (fun q => ixW i q.1 (fun k => P 160 L s (hS h a (.inl (0, q.1, .inl (upd q.2 k v))))) wt) wt) := e204_159
theorem g204_161 : exq sa F N S rt cd204 P Q 161 L st h = (tR st fun a s => optW (hO h a 7) (fun fs => optW (fs[18]?) (fun v => P 164 L (v :: s) h) wt) wt) := e204_161
theorem g204_169 : exq sa F N S rt cd204 P Q 169 L st h = (tI st fun a s => brW (a = 0) (P 172 L s h) (P 184 L s h) wt wt) := e204_169
theorem g204_173 : exq sa F N S rt cd204 P Q 173 L st h = (tR st fun a s => optW (hO h a 7) (fun fs => optW (fs[18]?) (fun v => P 176 L (v :: s) h) wt) wt) := e204_173
theorem g204_180 : exq sa F N S rt cd204 P Q 180 L st h = (aldW sa st h (fun v s => P 181 L (.int v :: s) h) wt) := e204_180
theorem g204_186 : exq sa F N S rt cd204 P Q 186 L st h = (tI st fun v s => tI s fun i s => tR s fun a s => optW (hI h a) (fun q => ixW i q.1 (fun k => P 187 L s (hS h a (.inl (0, q.1, .inl (upd q.2 k v))))) wt) wt) := e204_186
theorem g204_197 : exq sa F N S rt cd204 P Q 197 L st h = (ivVW F 203 5 7 st h (fun r s h' => P 200 L (pu r s) h') wt) := e204_197
theorem g204_200 : exq sa F N S rt cd204 P Q 200 L st h = (tI st fun a s => brW (a = 0) (P 210 L s h) (P 203 L s h) wt wt) := e204_200
theorem g204_221 : exq sa F N S rt cd204 P Q 221 L st h = (tR st fun a s => optW (hO h a 7) (fun fs => optW (fs[16]?) (fun v => P 224 L (v :: s) h) wt) wt) := e204_221
theorem g204_229 : exq sa F N S rt cd204 P Q 229 L st h = (tI st fun v s => tI s fun i s => tR s fun a s => optW (hI h a) (fun q => ixW i q.1 (fun k => P 230 L s (hS h a (.inl (0, q.1, .inl (upd q.2 k v))))) wt) wt) := e204_229
theorem g204_233 : exq sa F N S rt cd204 P Q 233 L st h = (ivVW F 139 2 7 st h (fun r s h' => P 236 L (pu r s) h') wt) := e204_233
theorem g205_2 : exq sa F N S rt cd205 P Q 2 L st h = (ivVW F 163 2 7 st h (fun r s h' => P 5 L (pu r s) h') wt) := e205_2
theorem g205_5 : exq sa F N S rt cd205 P Q 5 L st h = (tI st fun a s => brW (a = 0) (P 44 L s h) (P 8 L s h) wt wt) := e205_5
theorem g205_11 : exq sa F N S rt cd205 P Q 11 L st h = (ivSW F 135 3 st h (fun r s h' => P 14 L (pu r s) h') wt) := e205_11
theorem g205_14 : exq sa F N S rt cd205 P Q 14 L st h = (tI st fun a s => brW (a = 0) (P 44 L s h) (P 17 L s h) wt wt) := e205_14
theorem g205_19 : exq sa F N S rt cd205 P Q 19 L st h = (ivVW F 162 2 7 st h (fun r s h' => P 22 L (pu r s) h') wt) := e205_19
theorem g205_22 : exq sa F N S rt cd205 P Q 22 L st h = (tI st fun a s => brW (a = 0) (P 44 L s h) (P 25 L s h) wt wt) := e205_22
theorem g205_27 : exq sa F N S rt cd205 P Q 27 L st h = (ivSW F 141 1 st h (fun r s h' => P 30 L (pu r s) h') wt) := e205_27
theorem g205_30 : exq sa F N S rt cd205 P Q 30 L st h = (tI st fun a s => brW (a = 0) (P 44 L s h) (P 33 L s h) wt wt) := e205_30
theorem g205_38 : exq sa F N S rt cd205 P Q 38 L st h = (ivSW F 135 3 st h (fun r s h' => P 41 L (pu r s) h') wt) := e205_38
theorem g205_41 : exq sa F N S rt cd205 P Q 41 L st h = (tI st fun a s => brW (a = 0) (P 44 L s h) (P 47 L s h) wt wt) := e205_41
theorem g205_48 : exq sa F N S rt cd205 P Q 48 L st h = (tR st fun a s => optW (hO h a 7) (fun fs => optW (fs[17]?) (fun v => P 51 L (v :: s) h) wt) wt) := e205_48
theorem g205_52 : exq sa F N S rt cd205 P Q 52 L st h = (aldW sa st h (fun v s => P 53 L (.int v :: s) h) wt) := e205_52
theorem g205_54 : exq sa F N S rt cd205 P Q 54 L st h = (ivSW F 136 2 st h (fun r s h' => P 57 L (pu r s) h') wt) := e205_54
theorem g205_57 : exq sa F N S rt cd205 P Q 57 L st h = (tI st fun a s => brW (a = 0) (P 63 L s h) (P 60 L s h) wt wt) := e205_57
theorem g205_64 : exq sa F N S rt cd205 P Q 64 L st h = (tR st fun a s => optW (hO h a 7) (fun fs => optW (fs[0]?) (fun v => P 67 L (v :: s) h) wt) wt) := e205_64
theorem g205_69 : exq sa F N S rt cd205 P Q 69 L st h = (aldW sa st h (fun v s => P 70 L (.int v :: s) h) wt) := e205_69
theorem g205_70 : exq sa F N S rt cd205 P Q 70 L st h = (tI st fun a s => brW (0 ≤ a) (P 79 L s h) (P 73 L s h) wt wt) := e205_70
theorem g205_75 : exq sa F N S rt cd205 P Q 75 L st h = (ivVW F 138 2 7 st h (fun r s h' => P 78 L (pu r s) h') wt) := e205_75
theorem g205_86 : exq sa F N S rt cd205 P Q 86 L st h = (ivVW F 142 4 7 st h (fun r s h' => P 89 L (pu r s) h') wt) := e205_86
theorem g205_89 : exq sa F N S rt cd205 P Q 89 L st h = (tI st fun a s => brW (a = 0) (P 92 L s h) (P 98 L s h) wt wt) := e205_89
theorem g205_94 : exq sa F N S rt cd205 P Q 94 L st h = (ivVW F 138 2 7 st h (fun r s h' => P 97 L (pu r s) h') wt) := e205_94
theorem g205_107 : exq sa F N S rt cd205 P Q 107 L st h = (tI st fun a s => brW (a = 0) (P 110 L s h) (P 114 L s h) wt wt) := e205_107
theorem g205_115 : exq sa F N S rt cd205 P Q 115 L st h = (tR st fun a s => optW (hO h a 7) (fun fs => optW (fs[16]?) (fun v => P 118 L (v :: s) h) wt) wt) := e205_115
theorem g205_119 : exq sa F N S rt cd205 P Q 119 L st h = (aldW sa st h (fun v s => P 120 L (.int v :: s) h) wt) := e205_119
theorem g205_120 : exq sa F N S rt cd205 P Q 120 L st h = (tI st fun b s => tI s fun a s => brW (b ≤ a) (P 181 L s h) (P 123 L s h) wt wt) := e205_120
theorem g205_124 : exq sa F N S rt cd205 P Q 124 L st h = (ivVW F 189 1 7 st h (fun r s h' => P 127 L (pu r s) h') wt) := e205_124
theorem g205_128 : exq sa F N S rt cd205 P Q 128 L st h = (tR st fun a s => optW (hO h a 7) (fun fs => optW (fs[18]?) (fun v => P 131 L (v :: s) h) wt) wt) := e205_128
theorem g205_132 : exq sa F N S rt cd205 P Q 132 L st h = (tI st fun a s => brW (a = 0) (P 135 L s h) (P 142 L s h) wt wt) := e205_132
theorem g205_147 : exq sa F N S rt cd205 P Q 147 L st h = (tI st fun v s => tI s fun i s => tR s fun a s => optW (hI h a) (fun q => ixW i q.1 (fun k => P 148 L s (hS h a (.inl (0, q.1, .inl (upd q.2 k v))))) wt) wt) := e205_147
theorem g205_158 : exq sa F N S rt cd205 P Q 158 L st h = (ivVW F 203 5 7 st h (fun r s h' => P 161 L (pu r s) h') wt) := e205_158
theorem g205_161 : exq sa F N S rt cd205 P Q 161 L st h = (tI st fun a s => brW (a = 0) (P 171 L s h) (P 164 L s h) wt wt) := e205_161
theorem g205_184 : exq sa F N S rt cd205 P Q 184 L st h = (ivVW F 139 2 7 st h (fun r s h' => P 187 L (pu r s) h') wt) := e205_184
theorem g206_10 : exq sa F N S rt cd206 P Q 10 L st h = (tI st fun a s => brW (a = 0) (P 31 L s h) (P 13 L s h) wt wt) := e206_10
theorem g207_2 : exq sa F N S rt cd207 P Q 2 L st h = (ivVW F 163 2 7 st h (fun r s h' => P 5 L (pu r s) h') wt) := e207_2
theorem g207_5 : exq sa F N S rt cd207 P Q 5 L st h = (tI st fun a s => brW (a = 0) (P 35 L s h) (P 8 L s h) wt wt) := e207_5
theorem g207_9 : exq sa F N S rt cd207 P Q 9 L st h = (ivSW F 191 1 st h (fun r s h' => P 12 L (pu r s) h') wt) := e207_9
theorem g207_12 : exq sa F N S rt cd207 P Q 12 L st h = (tI st fun a s => brW (a = 0) (P 35 L s h) (P 15 L s h) wt wt) := e207_12
theorem g207_19 : exq sa F N S rt cd207 P Q 19 L st h = (ivSW F 135 3 st h (fun r s h' => P 22 L (pu r s) h') wt) := e207_19
theorem g207_22 : exq sa F N S rt cd207 P Q 22 L st h = (tI st fun a s => brW (a = 0) (P 35 L s h) (P 25 L s h) wt wt) := e207_22
theorem g207_29 : exq sa F N S rt cd207 P Q 29 L st h = (ivSW F 135 3 st h (fun r s h' => P 32 L (pu r s) h') wt) := e207_29
theorem g207_32 : exq sa F N S rt cd207 P Q 32 L st h = (tI st fun a s => brW (a = 0) (P 35 L s h) (P 39 L s h) wt wt) := e207_32
theorem g207_41 : exq sa F N S rt cd207 P Q 41 L st h = (tR st fun a s => optW (hO h a 7) (fun fs => optW (fs[17]?) (fun v => P 44 L (v :: s) h) wt) wt) := e207_41
theorem g207_45 : exq sa F N S rt cd207 P Q 45 L st h = (ivVW F 175 3 7 st h (fun r s h' => P 48 L (pu r s) h') wt) := e207_45
theorem g207_63 : exq sa F N S rt cd207 P Q 63 L st h = (ivSW F 137 1 st h (fun r s h' => P 66 L (pu r s) h') wt) := e207_63
theorem g207_66 : exq sa F N S rt cd207 P Q 66 L st h = (tI st fun b s => tI s fun a s => brW (b ≤ a) (P 83 L s h) (P 69 L s h) wt wt) := e207_66
theorem g207_90 : exq sa F N S rt cd207 P Q 90 L st h = (tI st fun b s => tI s fun a s => brW (b < a) (P 224 L s h) (P 93 L s h) wt wt) := e207_90
theorem g207_100 : exq sa F N S rt cd207 P Q 100 L st h = (tI st fun a s => brW (a = 0) (P 103 L s h) (P 218 L s h) wt wt) := e207_100
theorem g207_107 : exq sa F N S rt cd207 P Q 107 L st h = (ivVW F 189 1 7 st h (fun r s h' => P 110 L (pu r s) h') wt) := e207_107
theorem g207_116 : exq sa F N S rt cd207 P Q 116 L st h = (tR st fun a s => optW (hO h a 7) (fun fs => optW (fs[16]?) (fun v => P 119 L (v :: s) h) wt) wt) := e207_116
theorem g207_120 : exq sa F N S rt cd207 P Q 120 L st h = (aldW sa st h (fun v s => P 121 L (.int v :: s) h) wt) := e207_120
theorem g207_121 : exq sa F N S rt cd207 P Q 121 L st h = (tI st fun b s => tI s fun a s => brW (b ≤ a) (P 189 L s h) (P 124 L s h) wt wt) := e207_121
theorem g207_130 : exq sa F N S rt cd207 P Q 130 L st h = (ivSW F 136 2 st h (fun r s h' => P 133 L (pu r s) h') wt) := e207_130
theorem g207_133 : exq sa F N S rt cd207 P Q 133 L st h = (tI st fun a s => brW (a = 0) (P 136 L s h) (P 140 L s h) wt wt) := e207_133
theorem g207_144 : exq sa F N S rt cd207 P Q 144 L st h = (ivSW F 136 2 st h (fun r s h' => P 147 L (pu r s) h') wt) := e207_144
theorem g207_147 : exq sa F N S rt cd207 P Q 147 L st h = (tI st fun a s => brW (a = 0) (P 155 L s h) (P 150 L s h) wt wt) := e207_147
theorem g207_167 : exq sa F N S rt cd207 P Q 167 L st h = (ivSW F 136 2 st h (fun r s h' => P 170 L (pu r s) h') wt) := e207_167
theorem g207_170 : exq sa F N S rt cd207 P Q 170 L st h = (tI st fun a s => brW (a = 0) (P 183 L s h) (P 173 L s h) wt wt) := e207_170
theorem g207_175 : exq sa F N S rt cd207 P Q 175 L st h = (tR st fun a s => optW (hO h a 7) (fun fs => optW (fs[18]?) (fun v => P 178 L (v :: s) h) wt) wt) := e207_175
theorem g207_180 : exq sa F N S rt cd207 P Q 180 L st h = (ivVW F 177 3 7 st h (fun r s h' => P 183 L (pu r s) h') wt) := e207_180
theorem g207_191 : exq sa F N S rt cd207 P Q 191 L st h = (ivVW F 190 2 7 st h (fun r s h' => P 194 L (pu r s) h') wt) := e207_191
theorem g207_197 : exq sa F N S rt cd207 P Q 197 L st h = (tR st fun a s => optW (hO h a 7) (fun fs => optW (fs[18]?) (fun v => P 200 L (v :: s) h) wt) wt) := e207_197
theorem g207_201 : exq sa F N S rt cd207 P Q 201 L st h = (aldW sa st h (fun v s => P 202 L (.int v :: s) h) wt) := e207_201
theorem g207_203 : exq sa F N S rt cd207 P Q 203 L st h = (ivSW F 136 2 st h (fun r s h' => P 206 L (pu r s) h') wt) := e207_203
theorem g207_206 : exq sa F N S rt cd207 P Q 206 L st h = (tI st fun a s => brW (a = 0) (P 214 L s h) (P 209 L s h) wt wt) := e207_206
theorem g207_228 : exq sa F N S rt cd207 P Q 228 L st h = (ivSW F 206 2 st h (fun r s h' => P 231 L (pu r s) h') wt) := e207_228
theorem g207_235 : exq sa F N S rt cd207 P Q 235 L st h = (tI st fun a s => brW (a = 0) (P 238 L s h) (P 246 L s h) wt wt) := e207_235
theorem g208_2 : exq sa F N S rt cd208 P Q 2 L st h = (ivSW F 191 1 st h (fun r s h' => P 5 L (pu r s) h') wt) := e208_2
theorem g208_5 : exq sa F N S rt cd208 P Q 5 L st h = (tI st fun a s => brW (a = 0) (P 31 L s h) (P 8 L s h) wt wt) := e208_5
theorem g208_12 : exq sa F N S rt cd208 P Q 12 L st h = (ivSW F 135 3 st h (fun r s h' => P 15 L (pu r s) h') wt) := e208_12
theorem g208_15 : exq sa F N S rt cd208 P Q 15 L st h = (tI st fun a s => brW (a = 0) (P 31 L s h) (P 18 L s h) wt wt) := e208_15
theorem g208_21 : exq sa F N S rt cd208 P Q 21 L st h = (ivSW F 135 3 st h (fun r s h' => P 24 L (pu r s) h') wt) := e208_21
theorem g208_24 : exq sa F N S rt cd208 P Q 24 L st h = (tI st fun a s => brW (a = 0) (P 31 L s h) (P 27 L s h) wt wt) := e208_24
theorem g208_32 : exq sa F N S rt cd208 P Q 32 L st h = (ivVW F 180 2 7 st h (fun r s h' => P 35 L (pu r s) h') wt) := e208_32
theorem g208_39 : exq sa F N S rt cd208 P Q 39 L st h = (tI st fun a s => brW (0 ≤ a) (P 45 L s h) (P 42 L s h) wt wt) := e208_39
theorem g208_46 : exq sa F N S rt cd208 P Q 46 L st h = (ivVW F 189 1 7 st h (fun r s h' => P 49 L (pu r s) h') wt) := e208_46
theorem g208_59 : exq sa F N S rt cd208 P Q 59 L st h = (tI st fun b s => tI s fun a s => brW (b ≤ a) (P 166 L s h) (P 62 L s h) wt wt) := e208_59
theorem g208_77 : exq sa F N S rt cd208 P Q 77 L st h = (tR st fun a s => optW (hO h a 7) (fun fs => optW (fs[16]?) (fun v => P 80 L (v :: s) h) wt) wt) := e208_77
theorem g208_81 : exq sa F N S rt cd208 P Q 81 L st h = (aldW sa st h (fun v s => P 82 L (.int v :: s) h) wt) := e208_81
theorem g208_88 : exq sa F N S rt cd208 P Q 88 L st h = (tR st fun a s => optW (hO h a 7) (fun fs => optW (fs[18]?) (fun v => P 91 L (v :: s) h) wt) wt) := e208_88
theorem g208_96 : exq sa F N S rt cd208 P Q 96 L st h = (aldW sa st h (fun v s => P 97 L (.int v :: s) h) wt) := e208_96
theorem g208_101 : exq sa F N S rt cd208 P Q 101 L st h = (tI st fun a s => brW (a = 0) (P 104 L s h) (P 125 L s h) wt wt) := e208_101
theorem g208_112 : exq sa F N S rt cd208 P Q 112 L st h = (tI st fun a s => brW (a = 0) (P 115 L s h) (P 125 L s h) wt wt) := e208_112
theorem g208_117 : exq sa F N S rt cd208 P Q 117 L st h = (tR st fun a s => optW (hO h a 7) (fun fs => optW (fs[18]?) (fun v => P 120 L (v :: s) h) wt) wt) := e208_117
theorem g208_122 : exq sa F N S rt cd208 P Q 122 L st h = (ivVW F 176 3 7 st h (fun r s h' => P 125 L (pu r s) h') wt) := e208_122
theorem g208_128 : exq sa F N S rt cd208 P Q 128 L st h = (tI st fun b s => tI s fun a s => brW (a = b) (P 131 L s h) (P 152 L s h) wt wt) := e208_128
theorem g208_139 : exq sa F N S rt cd208 P Q 139 L st h = (tI st fun a s => brW (a = 0) (P 142 L s h) (P 152 L s h) wt wt) := e208_139
theorem g208_144 : exq sa F N S rt cd208 P Q 144 L st h = (tR st fun a s => optW (hO h a 7) (fun fs => optW (fs[18]?) (fun v => P 147 L (v :: s) h) wt) wt) := e208_144
theorem g208_149 : exq sa F N S rt cd208 P Q 149 L st h = (ivVW F 177 3 7 st h (fun r s h' => P 152 L (pu r s) h') wt) := e208_149
theorem g208_154 : exq sa F N S rt cd208 P Q 154 L st h = (tR st fun a s => optW (hO h a 7) (fun fs => optW (fs[18]?) (fun v => P 157 L (v :: s) h) wt) wt) := e208_154
theorem g208_157 : exq sa F N S rt cd208 P Q 157 L st h = (ivVW F 173 2 7 st h (fun r s h' => P 160 L (pu r s) h') wt) := e208_157
theorem g208_167 : exq sa F N S rt cd208 P Q 167 L st h = (tI st fun a s => brW (a = 0) (P 170 L s h) (P 183 L s h) wt wt) := e208_167
theorem g208_172 : exq sa F N S rt cd208 P Q 172 L st h = (tR st fun a s => optW (hO h a 7) (fun fs => optW (fs[18]?) (fun v => P 175 L (v :: s) h) wt) wt) := e208_172
theorem g208_176 : exq sa F N S rt cd208 P Q 176 L st h = (aldW sa st h (fun v s => P 177 L (.int v :: s) h) wt) := e208_176
theorem g208_177 : exq sa F N S rt cd208 P Q 177 L st h = (ivVW F 174 2 7 st h (fun r s h' => P 180 L (pu r s) h') wt) := e208_177
theorem g208_185 : exq sa F N S rt cd208 P Q 185 L st h = (tR st fun a s => optW (hO h a 7) (fun fs => optW (fs[18]?) (fun v => P 188 L (v :: s) h) wt) wt) := e208_185
theorem g208_189 : exq sa F N S rt cd208 P Q 189 L st h = (ivVW F 175 3 7 st h (fun r s h' => P 192 L (pu r s) h') wt) := e208_189
theorem g209_3 : exq sa F N S rt cd209 P Q 3 L st h = (ivSW F 135 3 st h (fun r s h' => P 6 L (pu r s) h') wt) := e209_3
theorem g209_6 : exq sa F N S rt cd209 P Q 6 L st h = (tI st fun a s => brW (a = 0) (P 9 L s h) (P 12 L s h) wt wt) := e209_6
theorem g209_13 : exq sa F N S rt cd209 P Q 13 L st h = (tR st fun a s => optW (hO h a 7) (fun fs => optW (fs[15]?) (fun v => P 16 L (v :: s) h) wt) wt) := e209_13
theorem g209_16 : exq sa F N S rt cd209 P Q 16 L st h = (tI st fun a s => brW (a = 0) (P 19 L s h) (P 22 L s h) wt wt) := e209_16
theorem g209_23 : exq sa F N S rt cd209 P Q 23 L st h = (tR st fun a s => optW (hO h a 7) (fun fs => optW (fs[24]?) (fun v => P 26 L (v :: s) h) wt) wt) := e209_23
theorem g209_28 : exq sa F N S rt cd209 P Q 28 L st h = (tI st fun v s => tI s fun i s => tR s fun a s => optW (hB h a) (fun q => ixW i q.1 (fun k => P 29 L s (hS h a (.inl (1, q.1, .inl (upd q.2 k (vp_nar .boolean v)))))) wt) wt) := e209_28
theorem g209_34 : exq sa F N S rt cd209 P Q 34 L st h = (tI st fun b s => tI s fun a s => brW (b ≤ a) (P 60 L s h) (P 37 L s h) wt wt) := e209_34
theorem g209_38 : exq sa F N S rt cd209 P Q 38 L st h = (tR st fun a s => optW (hO h a 7) (fun fs => optW (fs[25]?) (fun v => P 41 L (v :: s) h) wt) wt) := e209_38
theorem g209_48 : exq sa F N S rt cd209 P Q 48 L st h = (tR st fun a s => optW (hO h a 7) (fun fs => optW (fs[16]?) (fun v => P 51 L (v :: s) h) wt) wt) := e209_48
theorem g209_52 : exq sa F N S rt cd209 P Q 52 L st h = (aldW sa st h (fun v s => P 53 L (.int v :: s) h) wt) := e209_52
theorem g209_53 : exq sa F N S rt cd209 P Q 53 L st h = (tI st fun v s => tI s fun i s => tR s fun a s => optW (hI h a) (fun q => ixW i q.1 (fun k => P 54 L s (hS h a (.inl (0, q.1, .inl (upd q.2 k v))))) wt) wt) := e209_53
theorem g209_65 : exq sa F N S rt cd209 P Q 65 L st h = (tI st fun b s => tI s fun a s => brW (b ≤ a) (P 91 L s h) (P 68 L s h) wt wt) := e209_65
theorem g209_69 : exq sa F N S rt cd209 P Q 69 L st h = (tR st fun a s => optW (hO h a 7) (fun fs => optW (fs[26]?) (fun v => P 72 L (v :: s) h) wt) wt) := e209_69
theorem g209_79 : exq sa F N S rt cd209 P Q 79 L st h = (tR st fun a s => optW (hO h a 7) (fun fs => optW (fs[17]?) (fun v => P 82 L (v :: s) h) wt) wt) := e209_79
theorem g209_83 : exq sa F N S rt cd209 P Q 83 L st h = (aldW sa st h (fun v s => P 84 L (.int v :: s) h) wt) := e209_83
theorem g209_84 : exq sa F N S rt cd209 P Q 84 L st h = (tI st fun v s => tI s fun i s => tR s fun a s => optW (hI h a) (fun q => ixW i q.1 (fun k => P 85 L s (hS h a (.inl (0, q.1, .inl (upd q.2 k v))))) wt) wt) := e209_84
theorem g210_3 : exq sa F N S rt cd210 P Q 3 L st h = (ivSW F 135 3 st h (fun r s h' => P 6 L (pu r s) h') wt) := e210_3
theorem g210_6 : exq sa F N S rt cd210 P Q 6 L st h = (tI st fun a s => brW (a = 0) (P 9 L s h) (P 12 L s h) wt wt) := e210_6
theorem g210_13 : exq sa F N S rt cd210 P Q 13 L st h = (tR st fun a s => optW (hO h a 7) (fun fs => optW (fs[24]?) (fun v => P 16 L (v :: s) h) wt) wt) := e210_13
theorem g210_17 : exq sa F N S rt cd210 P Q 17 L st h = (tI st fun i s => tR s fun a s => optW (hB h a) (fun q => ixW i q.1 (fun k => P 18 L (.int (q.2 k) :: s) h) wt) wt) := e210_17
theorem g210_18 : exq sa F N S rt cd210 P Q 18 L st h = (tI st fun a s => brW (a = 0) (P 21 L s h) (P 24 L s h) wt wt) := e210_18
theorem g210_26 : exq sa F N S rt cd210 P Q 26 L st h = (pfdW st h 7 20 0 (fun s h' => P 29 L s h') wt) := e210_26
theorem g210_34 : exq sa F N S rt cd210 P Q 34 L st h = (tI st fun b s => tI s fun a s => brW (b ≤ a) (P 60 L s h) (P 37 L s h) wt wt) := e210_34
theorem g210_38 : exq sa F N S rt cd210 P Q 38 L st h = (tR st fun a s => optW (hO h a 7) (fun fs => optW (fs[16]?) (fun v => P 41 L (v :: s) h) wt) wt) := e210_38
theorem g210_43 : exq sa F N S rt cd210 P Q 43 L st h = (tR st fun a s => optW (hO h a 7) (fun fs => optW (fs[25]?) (fun v => P 46 L (v :: s) h) wt) wt) := e210_43
theorem g210_52 : exq sa F N S rt cd210 P Q 52 L st h = (aldW sa st h (fun v s => P 53 L (.int v :: s) h) wt) := e210_52
theorem g210_53 : exq sa F N S rt cd210 P Q 53 L st h = (tI st fun v s => tI s fun i s => tR s fun a s => optW (hI h a) (fun q => ixW i q.1 (fun k => P 54 L s (hS h a (.inl (0, q.1, .inl (upd q.2 k v))))) wt) wt) := e210_53
theorem g210_65 : exq sa F N S rt cd210 P Q 65 L st h = (tI st fun b s => tI s fun a s => brW (b ≤ a) (P 91 L s h) (P 68 L s h) wt wt) := e210_65
theorem g210_69 : exq sa F N S rt cd210 P Q 69 L st h = (tR st fun a s => optW (hO h a 7) (fun fs => optW (fs[17]?) (fun v => P 72 L (v :: s) h) wt) wt) := e210_69
theorem g210_74 : exq sa F N S rt cd210 P Q 74 L st h = (tR st fun a s => optW (hO h a 7) (fun fs => optW (fs[26]?) (fun v => P 77 L (v :: s) h) wt) wt) := e210_74
theorem g210_83 : exq sa F N S rt cd210 P Q 83 L st h = (aldW sa st h (fun v s => P 84 L (.int v :: s) h) wt) := e210_83
theorem g210_84 : exq sa F N S rt cd210 P Q 84 L st h = (tI st fun v s => tI s fun i s => tR s fun a s => optW (hI h a) (fun q => ixW i q.1 (fun k => P 85 L s (hS h a (.inl (0, q.1, .inl (upd q.2 k v))))) wt) wt) := e210_84
theorem g211_2 : exq sa F N S rt cd211 P Q 2 L st h = (ivVW F 162 2 7 st h (fun r s h' => P 5 L (pu r s) h') wt) := e211_2
theorem g211_5 : exq sa F N S rt cd211 P Q 5 L st h = (tI st fun a s => brW (a = 0) (P 19 L s h) (P 8 L s h) wt wt) := e211_5
theorem g211_9 : exq sa F N S rt cd211 P Q 9 L st h = (tR st fun a s => optW (hO h a 7) (fun fs => optW (fs[16]?) (fun v => P 12 L (v :: s) h) wt) wt) := e211_9
theorem g211_15 : exq sa F N S rt cd211 P Q 15 L st h = (aldW sa st h (fun v s => P 16 L (.int v :: s) h) wt) := e211_15
theorem g212_2 : exq sa F N S rt cd212 P Q 2 L st h = (ivVW F 162 2 7 st h (fun r s h' => P 5 L (pu r s) h') wt) := e212_2
theorem g212_5 : exq sa F N S rt cd212 P Q 5 L st h = (tI st fun a s => brW (a = 0) (P 17 L s h) (P 8 L s h) wt wt) := e212_5
theorem g212_11 : exq sa F N S rt cd212 P Q 11 L st h = (ivSW F 135 3 st h (fun r s h' => P 14 L (pu r s) h') wt) := e212_11
theorem g212_14 : exq sa F N S rt cd212 P Q 14 L st h = (tI st fun a s => brW (a = 0) (P 17 L s h) (P 20 L s h) wt wt) := e212_14
theorem g212_21 : exq sa F N S rt cd212 P Q 21 L st h = (tR st fun a s => optW (hO h a 7) (fun fs => optW (fs[16]?) (fun v => P 24 L (v :: s) h) wt) wt) := e212_21
theorem g212_27 : exq sa F N S rt cd212 P Q 27 L st h = (aldW sa st h (fun v s => P 28 L (.int v :: s) h) wt) := e212_27
theorem g212_30 : exq sa F N S rt cd212 P Q 30 L st h = (tI st fun a s => brW (a = 0) (P 63 L s h) (P 33 L s h) wt wt) := e212_30
theorem g212_35 : exq sa F N S rt cd212 P Q 35 L st h = (tI st fun b s => tI s fun a s => brW (a = b) (P 63 L s h) (P 38 L s h) wt wt) := e212_35
theorem g212_40 : exq sa F N S rt cd212 P Q 40 L st h = (tI st fun b s => tI s fun a s => brW (a = b) (P 43 L s h) (P 53 L s h) wt wt) := e212_40
theorem g212_45 : exq sa F N S rt cd212 P Q 45 L st h = (tI st fun b s => tI s fun a s => brW (a = b) (P 63 L s h) (P 48 L s h) wt wt) := e212_45
theorem g212_50 : exq sa F N S rt cd212 P Q 50 L st h = (tI st fun b s => tI s fun a s => brW (a = b) (P 63 L s h) (P 53 L s h) wt wt) := e212_50
theorem g212_55 : exq sa F N S rt cd212 P Q 55 L st h = (tI st fun b s => tI s fun a s => brW (a = b) (P 58 L s h) (P 67 L s h) wt wt) := e212_55
theorem g212_60 : exq sa F N S rt cd212 P Q 60 L st h = (tI st fun b s => tI s fun a s => brW (a = b) (P 63 L s h) (P 67 L s h) wt wt) := e212_60
theorem g212_72 : exq sa F N S rt cd212 P Q 72 L st h = (tI st fun a s => brW (a = 0) (P 83 L s h) (P 75 L s h) wt wt) := e212_72
theorem g212_77 : exq sa F N S rt cd212 P Q 77 L st h = (ivVW F 139 2 7 st h (fun r s h' => P 80 L (pu r s) h') wt) := e212_77
theorem g212_85 : exq sa F N S rt cd212 P Q 85 L st h = (ivVW F 138 2 7 st h (fun r s h' => P 88 L (pu r s) h') wt) := e212_85
theorem g213_1 : exq sa F N S rt cd213 P Q 1 L st h = (tR st fun a s => optW (hO h a 7) (fun fs => optW (fs[27]?) (fun v => P 4 L (v :: s) h) wt) wt) := e213_1
theorem g213_6 : exq sa F N S rt cd213 P Q 6 L st h = (tI st fun b s => tI s fun a s => brW (b ≤ a) (P 29 L s h) (P 9 L s h) wt wt) := e213_6
theorem g213_10 : exq sa F N S rt cd213 P Q 10 L st h = (tR st fun a s => optW (hO h a 7) (fun fs => optW (fs[28]?) (fun v => P 13 L (v :: s) h) wt) wt) := e213_10
theorem g213_14 : exq sa F N S rt cd213 P Q 14 L st h = (tR st fun a s => optW (hO h a 7) (fun fs => optW (fs[27]?) (fun v => P 17 L (v :: s) h) wt) wt) := e213_14
theorem g213_18 : exq sa F N S rt cd213 P Q 18 L st h = (tI st fun v s => tI s fun i s => tR s fun a s => optW (hI h a) (fun q => ixW i q.1 (fun k => P 19 L s (hS h a (.inl (0, q.1, .inl (upd q.2 k v))))) wt) wt) := e213_18
theorem g213_21 : exq sa F N S rt cd213 P Q 21 L st h = (tR st fun a s => optW (hO h a 7) (fun fs => optW (fs[27]?) (fun v => P 24 L (v :: s) h) wt) wt) := e213_21
theorem g213_26 : exq sa F N S rt cd213 P Q 26 L st h = (pfdW st h 7 27 0 (fun s h' => P 29 L s h') wt) := e213_26
theorem g214_3 : exq sa F N S rt cd214 P Q 3 L st h = (ivVW F 213 2 7 st h (fun r s h' => P 6 L (pu r s) h') wt) := e214_3
theorem g214_7 : exq sa F N S rt cd214 P Q 7 L st h = (tR st fun a s => optW (hO h a 7) (fun fs => optW (fs[17]?) (fun v => P 10 L (v :: s) h) wt) wt) := e214_7
theorem g214_14 : exq sa F N S rt cd214 P Q 14 L st h = (aldW sa st h (fun v s => P 15 L (.int v :: s) h) wt) := e214_14
theorem g215_3 : exq sa F N S rt cd215 P Q 3 L st h = (ivVW F 213 2 7 st h (fun r s h' => P 6 L (pu r s) h') wt) := e215_3
theorem g216_3 : exq sa F N S rt cd216 P Q 3 L st h = (ivVW F 213 2 7 st h (fun r s h' => P 6 L (pu r s) h') wt) := e216_3
theorem g216_8 : exq sa F N S rt cd216 P Q 8 L st h = (ivVW F 215 2 7 st h (fun r s h' => P 11 L (pu r s) h') wt) := e216_8
theorem g216_12 : exq sa F N S rt cd216 P Q 12 L st h = (tR st fun a s => optW (hO h a 7) (fun fs => optW (fs[17]?) (fun v => P 15 L (v :: s) h) wt) wt) := e216_12
theorem g216_19 : exq sa F N S rt cd216 P Q 19 L st h = (aldW sa st h (fun v s => P 20 L (.int v :: s) h) wt) := e216_19
theorem g217_1 : exq sa F N S rt cd217 P Q 1 L st h = (tR st fun a s => optW (hO h a 7) (fun fs => optW (fs[16]?) (fun v => P 4 L (v :: s) h) wt) wt) := e217_1
theorem g217_7 : exq sa F N S rt cd217 P Q 7 L st h = (aldW sa st h (fun v s => P 8 L (.int v :: s) h) wt) := e217_7
theorem g217_39 : exq sa F N S rt cd217 P Q 39 L st h = (ivVW F 213 2 7 st h (fun r s h' => P 42 L (pu r s) h') wt) := e217_39
theorem g217_45 : exq sa F N S rt cd217 P Q 45 L st h = (ivVW F 216 2 7 st h (fun r s h' => P 48 L (pu r s) h') wt) := e217_45
theorem g217_53 : exq sa F N S rt cd217 P Q 53 L st h = (ivVW F 213 2 7 st h (fun r s h' => P 56 L (pu r s) h') wt) := e217_53
theorem g217_58 : exq sa F N S rt cd217 P Q 58 L st h = (ivVW F 216 2 7 st h (fun r s h' => P 61 L (pu r s) h') wt) := e217_58
theorem g217_68 : exq sa F N S rt cd217 P Q 68 L st h = (ivVW F 216 2 7 st h (fun r s h' => P 71 L (pu r s) h') wt) := e217_68
theorem g218_3 : exq sa F N S rt cd218 P Q 3 L st h = (ivVW F 213 2 7 st h (fun r s h' => P 6 L (pu r s) h') wt) := e218_3
theorem g218_8 : exq sa F N S rt cd218 P Q 8 L st h = (ivVW F 214 2 7 st h (fun r s h' => P 11 L (pu r s) h') wt) := e218_8
theorem g218_15 : exq sa F N S rt cd218 P Q 15 L st h = (ivVW F 217 2 7 st h (fun r s h' => P 18 L (pu r s) h') wt) := e218_15
theorem g219_3 : exq sa F N S rt cd219 P Q 3 L st h = (ivVW F 213 2 7 st h (fun r s h' => P 6 L (pu r s) h') wt) := e219_3
theorem g219_8 : exq sa F N S rt cd219 P Q 8 L st h = (ivVW F 214 2 7 st h (fun r s h' => P 11 L (pu r s) h') wt) := e219_8
theorem g220_1 : exq sa F N S rt cd220 P Q 1 L st h = (tR st fun a s => optW (hO h a 7) (fun fs => optW (fs[16]?) (fun v => P 4 L (v :: s) h) wt) wt) := e220_1
theorem g220_7 : exq sa F N S rt cd220 P Q 7 L st h = (aldW sa st h (fun v s => P 8 L (.int v :: s) h) wt) := e220_7
theorem g220_43 : exq sa F N S rt cd220 P Q 43 L st h = (ivVW F 213 2 7 st h (fun r s h' => P 46 L (pu r s) h') wt) := e220_43
theorem g220_48 : exq sa F N S rt cd220 P Q 48 L st h = (ivVW F 218 2 7 st h (fun r s h' => P 51 L (pu r s) h') wt) := e220_48
theorem g220_55 : exq sa F N S rt cd220 P Q 55 L st h = (ivVW F 219 2 7 st h (fun r s h' => P 58 L (pu r s) h') wt) := e220_55
theorem g220_62 : exq sa F N S rt cd220 P Q 62 L st h = (ivVW F 213 2 7 st h (fun r s h' => P 65 L (pu r s) h') wt) := e220_62
theorem g220_68 : exq sa F N S rt cd220 P Q 68 L st h = (ivVW F 219 2 7 st h (fun r s h' => P 71 L (pu r s) h') wt) := e220_68
theorem g220_75 : exq sa F N S rt cd220 P Q 75 L st h = (ivVW F 218 2 7 st h (fun r s h' => P 78 L (pu r s) h') wt) := e220_75
theorem g221_1 : exq sa F N S rt cd221 P Q 1 L st h = (tR st fun a s => optW (hO h a 7) (fun fs => optW (fs[16]?) (fun v => P 4 L (v :: s) h) wt) wt) := e221_1
theorem g221_7 : exq sa F N S rt cd221 P Q 7 L st h = (aldW sa st h (fun v s => P 8 L (.int v :: s) h) wt) := e221_7
theorem g221_9 : exq sa F N S rt cd221 P Q 9 L st h = (tI st fun b s => tI s fun a s => brW (b ≤ a) (P 18 L s h) (P 12 L s h) wt wt) := e221_9
theorem g221_14 : exq sa F N S rt cd221 P Q 14 L st h = (ivVW F 217 2 7 st h (fun r s h' => P 17 L (pu r s) h') wt) := e221_14
theorem g221_21 : exq sa F N S rt cd221 P Q 21 L st h = (ivVW F 213 2 7 st h (fun r s h' => P 24 L (pu r s) h') wt) := e221_21
theorem g221_26 : exq sa F N S rt cd221 P Q 26 L st h = (ivVW F 215 2 7 st h (fun r s h' => P 29 L (pu r s) h') wt) := e221_26
theorem g221_33 : exq sa F N S rt cd221 P Q 33 L st h = (ivVW F 220 2 7 st h (fun r s h' => P 36 L (pu r s) h') wt) := e221_33
theorem g222_2 : exq sa F N S rt cd222 P Q 2 L st h = (ivVW F 162 2 7 st h (fun r s h' => P 5 L (pu r s) h') wt) := e222_2
theorem g222_5 : exq sa F N S rt cd222 P Q 5 L st h = (tI st fun a s => brW (a = 0) (P 17 L s h) (P 8 L s h) wt wt) := e222_5
theorem g222_11 : exq sa F N S rt cd222 P Q 11 L st h = (ivSW F 135 3 st h (fun r s h' => P 14 L (pu r s) h') wt) := e222_11
theorem g222_14 : exq sa F N S rt cd222 P Q 14 L st h = (tI st fun a s => brW (a = 0) (P 17 L s h) (P 20 L s h) wt wt) := e222_14
theorem g222_22 : exq sa F N S rt cd222 P Q 22 L st h = (pfdW st h 7 27 0 (fun s h' => P 25 L s h') wt) := e222_22
theorem g222_26 : exq sa F N S rt cd222 P Q 26 L st h = (tI st fun a s => brW (a = 0) (P 29 L s h) (P 37 L s h) wt wt) := e222_26
theorem g222_31 : exq sa F N S rt cd222 P Q 31 L st h = (ivVW F 220 2 7 st h (fun r s h' => P 34 L (pu r s) h') wt) := e222_31
theorem g222_39 : exq sa F N S rt cd222 P Q 39 L st h = (ivVW F 221 2 7 st h (fun r s h' => P 42 L (pu r s) h') wt) := e222_39
theorem g223_3 : exq sa F N S rt cd223 P Q 3 L st h = (tR st fun a s => optW (hO h a 7) (fun fs => optW (fs[27]?) (fun v => P 6 L (v :: s) h) wt) wt) := e223_3
theorem g223_8 : exq sa F N S rt cd223 P Q 8 L st h = (ivSW F 135 3 st h (fun r s h' => P 11 L (pu r s) h') wt) := e223_8
theorem g223_11 : exq sa F N S rt cd223 P Q 11 L st h = (tI st fun a s => brW (a = 0) (P 23 L s h) (P 14 L s h) wt wt) := e223_11
theorem g223_15 : exq sa F N S rt cd223 P Q 15 L st h = (tR st fun a s => optW (hO h a 7) (fun fs => optW (fs[28]?) (fun v => P 18 L (v :: s) h) wt) wt) := e223_15
theorem g223_19 : exq sa F N S rt cd223 P Q 19 L st h = (aldW sa st h (fun v s => P 20 L (.int v :: s) h) wt) := e223_19
end GL
