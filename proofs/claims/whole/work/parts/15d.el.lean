/-! what each instruction does -/
section EL
variable {sa : aS} {F : aF} {N S : Nat} {rt : Option FieldType} {P : aK} {Q : aQ} {L : aL} {st : List Value} {h : aH}
theorem e158_0 : exq sa F N S rt cd158 P Q 0 L st h = (ldR L 0 fun v => P 1 L (v :: st) h) := rfl
theorem e158_1 : exq sa F N S rt cd158 P Q 1 L st h = (tR st fun a s => opt (hO h a 7) fun fs => opt (fs[7]?) fun v => P 4 L (v :: s) h) := rfl
theorem e158_4 : exq sa F N S rt cd158 P Q 4 L st h = (ivS F 157 1 st h fun r s h' => P 7 L (pu r s) h') := rfl
theorem e158_7 : exq sa F N S rt cd158 P Q 7 L st h = (tI st fun v s => lvS L 1 (.int v) fun L' => P 8 L' s h) := rfl
theorem e158_8 : exq sa F N S rt cd158 P Q 8 L st h = (ldI L 1 fun v => P 9 L (.int v :: st) h) := rfl
theorem e158_9 : exq sa F N S rt cd158 P Q 9 L st h = (tI st fun a s => br (a = 0) (P 12 L s h) (P 18 L s h)) := rfl
theorem e158_12 : exq sa F N S rt cd158 P Q 12 L st h = (ldR L 0 fun v => P 13 L (v :: st) h) := rfl
theorem e158_13 : exq sa F N S rt cd158 P Q 13 L st h = (P 14 L (.int (Int32.ofInt (1)) :: st) h) := rfl
theorem e158_14 : exq sa F N S rt cd158 P Q 14 L st h = (ivV F 152 2 7 st h fun r s h' => P 17 L (pu r s) h') := rfl
theorem e158_17 : exq sa F N S rt cd158 P Q 17 L st h = (tI st fun v s => s = [] ∧ (rt = some .int ∨ (rt = some .boolean ∧ (v = 0 ∨ v = 1))) ∧ Q (some (.int v)) h) := rfl
theorem e158_18 : exq sa F N S rt cd158 P Q 18 L st h = (ldR L 0 fun v => P 19 L (v :: st) h) := rfl
theorem e158_19 : exq sa F N S rt cd158 P Q 19 L st h = (tR st fun a s => opt (hO h a 7) fun fs => opt (fs[12]?) fun v => P 22 L (v :: s) h) := rfl
theorem e158_22 : exq sa F N S rt cd158 P Q 22 L st h = (P 23 L (.int (Int32.ofInt (0)) :: st) h) := rfl
theorem e158_23 : exq sa F N S rt cd158 P Q 23 L st h = (ald sa st h fun v s => P 24 L (.int v :: s) h) := rfl
theorem e158_24 : exq sa F N S rt cd158 P Q 24 L st h = (P 25 L (.int (Int32.ofInt (5)) :: st) h) := rfl
theorem e158_25 : exq sa F N S rt cd158 P Q 25 L st h = (tI st fun b s => tI s fun a s => br (a = b) (P 28 L s h) (P 34 L s h)) := rfl
theorem e158_28 : exq sa F N S rt cd158 P Q 28 L st h = (ldR L 0 fun v => P 29 L (v :: st) h) := rfl
theorem e158_29 : exq sa F N S rt cd158 P Q 29 L st h = (P 30 L (.int (Int32.ofInt (3)) :: st) h) := rfl
theorem e158_30 : exq sa F N S rt cd158 P Q 30 L st h = (ivV F 152 2 7 st h fun r s h' => P 33 L (pu r s) h') := rfl
theorem e158_33 : exq sa F N S rt cd158 P Q 33 L st h = (tI st fun v s => s = [] ∧ (rt = some .int ∨ (rt = some .boolean ∧ (v = 0 ∨ v = 1))) ∧ Q (some (.int v)) h) := rfl
theorem e158_34 : exq sa F N S rt cd158 P Q 34 L st h = (ldR L 0 fun v => P 35 L (v :: st) h) := rfl
theorem e158_35 : exq sa F N S rt cd158 P Q 35 L st h = (tR st fun a s => opt (hO h a 7) fun fs => opt (fs[12]?) fun v => P 38 L (v :: s) h) := rfl
theorem e158_38 : exq sa F N S rt cd158 P Q 38 L st h = (P 39 L (.int (Int32.ofInt (0)) :: st) h) := rfl
theorem e158_39 : exq sa F N S rt cd158 P Q 39 L st h = (ald sa st h fun v s => P 40 L (.int v :: s) h) := rfl
theorem e158_40 : exq sa F N S rt cd158 P Q 40 L st h = (tI st fun v s => lvS L 2 (.int v) fun L' => P 41 L' s h) := rfl
theorem e158_41 : exq sa F N S rt cd158 P Q 41 L st h = (ldR L 0 fun v => P 42 L (v :: st) h) := rfl
theorem e158_42 : exq sa F N S rt cd158 P Q 42 L st h = (tR st fun a s => opt (hO h a 7) fun fs => opt (fs[12]?) fun v => P 45 L (v :: s) h) := rfl
theorem e158_45 : exq sa F N S rt cd158 P Q 45 L st h = (P 46 L (.int (Int32.ofInt (0)) :: st) h) := rfl
theorem e158_46 : exq sa F N S rt cd158 P Q 46 L st h = (du2 st fun v v2 s => P 47 L (v :: v2 :: v :: v2 :: s) h) := rfl
theorem e158_47 : exq sa F N S rt cd158 P Q 47 L st h = (ald sa st h fun v s => P 48 L (.int v :: s) h) := rfl
theorem e158_48 : exq sa F N S rt cd158 P Q 48 L st h = (P 49 L (.int (Int32.ofInt (1)) :: st) h) := rfl
theorem e158_49 : exq sa F N S rt cd158 P Q 49 L st h = (tI st fun b s => tI s fun a s => P 50 L (.int (a + b) :: s) h) := rfl
theorem e158_50 : exq sa F N S rt cd158 P Q 50 L st h = (tI st fun v s => tI s fun i s => tR s fun a s => opt (hI h a) fun q => ix i q.1 fun k => P 51 L s (hS h a (.inl (0, q.1, .inl (upd q.2 k v))))) := rfl
theorem e158_51 : exq sa F N S rt cd158 P Q 51 L st h = (ldR L 0 fun v => P 52 L (v :: st) h) := rfl
theorem e158_52 : exq sa F N S rt cd158 P Q 52 L st h = (tR st fun a s => opt (hO h a 7) fun fs => opt (fs[12]?) fun v => P 55 L (v :: s) h) := rfl
theorem e158_55 : exq sa F N S rt cd158 P Q 55 L st h = (P 56 L (.int (Int32.ofInt (4)) :: st) h) := rfl
theorem e158_56 : exq sa F N S rt cd158 P Q 56 L st h = (ldI L 2 fun v => P 57 L (.int v :: st) h) := rfl
theorem e158_57 : exq sa F N S rt cd158 P Q 57 L st h = (tI st fun b s => tI s fun a s => P 58 L (.int (a + b) :: s) h) := rfl
theorem e158_58 : exq sa F N S rt cd158 P Q 58 L st h = (ldI L 1 fun v => P 59 L (.int v :: st) h) := rfl
theorem e158_59 : exq sa F N S rt cd158 P Q 59 L st h = (tI st fun v s => tI s fun i s => tR s fun a s => opt (hI h a) fun q => ix i q.1 fun k => P 60 L s (hS h a (.inl (0, q.1, .inl (upd q.2 k v))))) := rfl
theorem e158_60 : exq sa F N S rt cd158 P Q 60 L st h = (ldR L 0 fun v => P 61 L (v :: st) h) := rfl
theorem e158_61 : exq sa F N S rt cd158 P Q 61 L st h = (ldR L 0 fun v => P 62 L (v :: st) h) := rfl
theorem e158_62 : exq sa F N S rt cd158 P Q 62 L st h = (tR st fun a s => opt (hO h a 7) fun fs => opt (fs[13]?) fun v => P 65 L (v :: s) h) := rfl
theorem e158_65 : exq sa F N S rt cd158 P Q 65 L st h = (P 67 L (.int (Int32.ofInt (14)) :: st) h) := rfl
theorem e158_67 : exq sa F N S rt cd158 P Q 67 L st h = (ldI L 2 fun v => P 68 L (.int v :: st) h) := rfl
theorem e158_68 : exq sa F N S rt cd158 P Q 68 L st h = (tI st fun b s => tI s fun a s => P 69 L (.int (a + b) :: s) h) := rfl
theorem e158_69 : exq sa F N S rt cd158 P Q 69 L st h = (P 70 L (.int (Int32.ofInt (0)) :: st) h) := rfl
theorem e158_70 : exq sa F N S rt cd158 P Q 70 L st h = (P 72 L (.int (Int32.ofInt (9)) :: st) h) := rfl
theorem e158_72 : exq sa F N S rt cd158 P Q 72 L st h = (ivV F 153 5 7 st h fun r s h' => P 75 L (pu r s) h') := rfl
theorem e158_75 : exq sa F N S rt cd158 P Q 75 L st h = (tI st fun a s => br (a = 0) (P 91 L s h) (P 78 L s h)) := rfl
theorem e158_78 : exq sa F N S rt cd158 P Q 78 L st h = (ldR L 0 fun v => P 79 L (v :: st) h) := rfl
theorem e158_79 : exq sa F N S rt cd158 P Q 79 L st h = (P 81 L (.int (Int32.ofInt (59)) :: st) h) := rfl
theorem e158_81 : exq sa F N S rt cd158 P Q 81 L st h = (ivV F 154 2 7 st h fun r s h' => P 84 L (pu r s) h') := rfl
theorem e158_84 : exq sa F N S rt cd158 P Q 84 L st h = (tI st fun a s => br (a = 0) (P 91 L s h) (P 87 L s h)) := rfl
theorem e158_87 : exq sa F N S rt cd158 P Q 87 L st h = (P 88 L (.int (Int32.ofInt (1)) :: st) h) := rfl
theorem e158_88 : exq sa F N S rt cd158 P Q 88 L st h = (P 92 L st h) := rfl
theorem e158_91 : exq sa F N S rt cd158 P Q 91 L st h = (P 92 L (.int (Int32.ofInt (0)) :: st) h) := rfl
theorem e158_92 : exq sa F N S rt cd158 P Q 92 L st h = (tI st fun v s => s = [] ∧ (rt = some .int ∨ (rt = some .boolean ∧ (v = 0 ∨ v = 1))) ∧ Q (some (.int v)) h) := rfl
theorem e159_0 : exq sa F N S rt cd159 P Q 0 L st h = (ldR L 0 fun v => P 1 L (v :: st) h) := rfl
theorem e159_1 : exq sa F N S rt cd159 P Q 1 L st h = (P 2 L (.int (Int32.ofInt (0)) :: st) h) := rfl
theorem e159_2 : exq sa F N S rt cd159 P Q 2 L st h = (pfd st h 7 6 0 fun s h' => P 5 L s h') := rfl
theorem e159_5 : exq sa F N S rt cd159 P Q 5 L st h = (ldR L 0 fun v => P 6 L (v :: st) h) := rfl
theorem e159_6 : exq sa F N S rt cd159 P Q 6 L st h = (tR st fun a s => opt (hO h a 7) fun fs => opt (fs[12]?) fun v => P 9 L (v :: s) h) := rfl
theorem e159_9 : exq sa F N S rt cd159 P Q 9 L st h = (P 10 L (.int (Int32.ofInt (0)) :: st) h) := rfl
theorem e159_10 : exq sa F N S rt cd159 P Q 10 L st h = (P 11 L (.int (Int32.ofInt (0)) :: st) h) := rfl
theorem e159_11 : exq sa F N S rt cd159 P Q 11 L st h = (tI st fun v s => tI s fun i s => tR s fun a s => opt (hI h a) fun q => ix i q.1 fun k => P 12 L s (hS h a (.inl (0, q.1, .inl (upd q.2 k v))))) := rfl
theorem e159_12 : exq sa F N S rt cd159 P Q 12 L st h = (ldR L 0 fun v => P 13 L (v :: st) h) := rfl
theorem e159_13 : exq sa F N S rt cd159 P Q 13 L st h = (tR st fun a s => opt (hO h a 7) fun fs => opt (fs[12]?) fun v => P 16 L (v :: s) h) := rfl
theorem e159_16 : exq sa F N S rt cd159 P Q 16 L st h = (P 17 L (.int (Int32.ofInt (1)) :: st) h) := rfl
theorem e159_17 : exq sa F N S rt cd159 P Q 17 L st h = (P 18 L (.int (Int32.ofInt (0)) :: st) h) := rfl
theorem e159_18 : exq sa F N S rt cd159 P Q 18 L st h = (tI st fun v s => tI s fun i s => tR s fun a s => opt (hI h a) fun q => ix i q.1 fun k => P 19 L s (hS h a (.inl (0, q.1, .inl (upd q.2 k v))))) := rfl
theorem e159_19 : exq sa F N S rt cd159 P Q 19 L st h = (P 20 L (.int (Int32.ofInt (0)) :: st) h) := rfl
theorem e159_20 : exq sa F N S rt cd159 P Q 20 L st h = (tI st fun v s => lvS L 1 (.int v) fun L' => P 21 L' s h) := rfl
theorem e159_21 : exq sa F N S rt cd159 P Q 21 L st h = (ldI L 1 fun v => P 22 L (.int v :: st) h) := rfl
theorem e159_22 : exq sa F N S rt cd159 P Q 22 L st h = (P 24 L (.int (Int32.ofInt (34)) :: st) h) := rfl
theorem e159_24 : exq sa F N S rt cd159 P Q 24 L st h = (tI st fun b s => tI s fun a s => br (b ≤ a) (P 40 L s h) (P 27 L s h)) := rfl
theorem e159_27 : exq sa F N S rt cd159 P Q 27 L st h = (ldR L 0 fun v => P 28 L (v :: st) h) := rfl
theorem e159_28 : exq sa F N S rt cd159 P Q 28 L st h = (tR st fun a s => opt (hO h a 7) fun fs => opt (fs[13]?) fun v => P 31 L (v :: s) h) := rfl
theorem e159_31 : exq sa F N S rt cd159 P Q 31 L st h = (ldI L 1 fun v => P 32 L (.int v :: st) h) := rfl
theorem e159_32 : exq sa F N S rt cd159 P Q 32 L st h = (P 33 L (.int (Int32.ofInt (0)) :: st) h) := rfl
theorem e159_33 : exq sa F N S rt cd159 P Q 33 L st h = (tI st fun v s => tI s fun i s => tR s fun a s => opt (hI h a) fun q => ix i q.1 fun k => P 34 L s (hS h a (.inl (0, q.1, .inl (upd q.2 k v))))) := rfl
theorem e159_34 : exq sa F N S rt cd159 P Q 34 L st h = (ldI L 1 fun v => lvS L 1 (.int (v + Int32.ofInt (1))) fun L' => P 37 L' st h) := rfl
theorem e159_37 : exq sa F N S rt cd159 P Q 37 L st h = (P 21 L st h) := rfl
theorem e159_40 : exq sa F N S rt cd159 P Q 40 L st h = (ldR L 0 fun v => P 41 L (v :: st) h) := rfl
theorem e159_41 : exq sa F N S rt cd159 P Q 41 L st h = (ivV F 151 1 7 st h fun r s h' => P 44 L (pu r s) h') := rfl
theorem e159_44 : exq sa F N S rt cd159 P Q 44 L st h = (ldR L 0 fun v => P 45 L (v :: st) h) := rfl
theorem e159_45 : exq sa F N S rt cd159 P Q 45 L st h = (ivV F 155 1 7 st h fun r s h' => P 48 L (pu r s) h') := rfl
theorem e159_48 : exq sa F N S rt cd159 P Q 48 L st h = (tI st fun a s => br (a = 0) (P 51 L s h) (P 53 L s h)) := rfl
theorem e159_51 : exq sa F N S rt cd159 P Q 51 L st h = (P 52 L (.int (Int32.ofInt (0)) :: st) h) := rfl
theorem e159_52 : exq sa F N S rt cd159 P Q 52 L st h = (tI st fun v s => s = [] ∧ (rt = some .int ∨ (rt = some .boolean ∧ (v = 0 ∨ v = 1))) ∧ Q (some (.int v)) h) := rfl
theorem e159_53 : exq sa F N S rt cd159 P Q 53 L st h = (ldR L 0 fun v => P 54 L (v :: st) h) := rfl
theorem e159_54 : exq sa F N S rt cd159 P Q 54 L st h = (ivV F 151 1 7 st h fun r s h' => P 57 L (pu r s) h') := rfl
theorem e159_57 : exq sa F N S rt cd159 P Q 57 L st h = (ldR L 0 fun v => P 58 L (v :: st) h) := rfl
theorem e159_58 : exq sa F N S rt cd159 P Q 58 L st h = (tR st fun a s => opt (hO h a 7) fun fs => opt (fs[7]?) fun v => P 61 L (v :: s) h) := rfl
theorem e159_61 : exq sa F N S rt cd159 P Q 61 L st h = (P 63 L (.int (Int32.ofInt (113)) :: st) h) := rfl
theorem e159_63 : exq sa F N S rt cd159 P Q 63 L st h = (tI st fun b s => tI s fun a s => br (a = b) (P 66 L s h) (P 82 L s h)) := rfl
theorem e159_66 : exq sa F N S rt cd159 P Q 66 L st h = (ldR L 0 fun v => P 67 L (v :: st) h) := rfl
theorem e159_67 : exq sa F N S rt cd159 P Q 67 L st h = (ivV F 156 1 7 st h fun r s h' => P 70 L (pu r s) h') := rfl
theorem e159_70 : exq sa F N S rt cd159 P Q 70 L st h = (tI st fun a s => br (a = 0) (P 73 L s h) (P 75 L s h)) := rfl
theorem e159_73 : exq sa F N S rt cd159 P Q 73 L st h = (P 74 L (.int (Int32.ofInt (0)) :: st) h) := rfl
theorem e159_74 : exq sa F N S rt cd159 P Q 74 L st h = (tI st fun v s => s = [] ∧ (rt = some .int ∨ (rt = some .boolean ∧ (v = 0 ∨ v = 1))) ∧ Q (some (.int v)) h) := rfl
theorem e159_75 : exq sa F N S rt cd159 P Q 75 L st h = (ldR L 0 fun v => P 76 L (v :: st) h) := rfl
theorem e159_76 : exq sa F N S rt cd159 P Q 76 L st h = (ivV F 151 1 7 st h fun r s h' => P 79 L (pu r s) h') := rfl
theorem e159_79 : exq sa F N S rt cd159 P Q 79 L st h = (P 57 L st h) := rfl
theorem e159_82 : exq sa F N S rt cd159 P Q 82 L st h = (ldR L 0 fun v => P 83 L (v :: st) h) := rfl
theorem e159_83 : exq sa F N S rt cd159 P Q 83 L st h = (tR st fun a s => opt (hO h a 7) fun fs => opt (fs[12]?) fun v => P 86 L (v :: s) h) := rfl
theorem e159_86 : exq sa F N S rt cd159 P Q 86 L st h = (P 87 L (.int (Int32.ofInt (1)) :: st) h) := rfl
theorem e159_87 : exq sa F N S rt cd159 P Q 87 L st h = (ald sa st h fun v s => P 88 L (.int v :: s) h) := rfl
theorem e159_88 : exq sa F N S rt cd159 P Q 88 L st h = (tI st fun a s => br (a = 0) (P 91 L s h) (P 97 L s h)) := rfl
theorem e159_91 : exq sa F N S rt cd159 P Q 91 L st h = (ldR L 0 fun v => P 92 L (v :: st) h) := rfl
theorem e159_92 : exq sa F N S rt cd159 P Q 92 L st h = (P 93 L (.int (Int32.ofInt (1)) :: st) h) := rfl
theorem e159_93 : exq sa F N S rt cd159 P Q 93 L st h = (ivV F 152 2 7 st h fun r s h' => P 96 L (pu r s) h') := rfl
theorem e159_96 : exq sa F N S rt cd159 P Q 96 L st h = (tI st fun v s => s = [] ∧ (rt = some .int ∨ (rt = some .boolean ∧ (v = 0 ∨ v = 1))) ∧ Q (some (.int v)) h) := rfl
theorem e159_97 : exq sa F N S rt cd159 P Q 97 L st h = (ldR L 0 fun v => P 98 L (v :: st) h) := rfl
theorem e159_98 : exq sa F N S rt cd159 P Q 98 L st h = (tR st fun a s => opt (hO h a 7) fun fs => opt (fs[7]?) fun v => P 101 L (v :: s) h) := rfl
theorem e159_101 : exq sa F N S rt cd159 P Q 101 L st h = (P 102 L (.int (Int32.ofInt (-1)) :: st) h) := rfl
theorem e159_102 : exq sa F N S rt cd159 P Q 102 L st h = (tI st fun b s => tI s fun a s => br (a = b) (P 105 L s h) (P 114 L s h)) := rfl
theorem e159_105 : exq sa F N S rt cd159 P Q 105 L st h = (ldR L 0 fun v => P 106 L (v :: st) h) := rfl
theorem e159_106 : exq sa F N S rt cd159 P Q 106 L st h = (tR st fun a s => opt (hO h a 7) fun fs => opt (fs[12]?) fun v => P 109 L (v :: s) h) := rfl
theorem e159_109 : exq sa F N S rt cd159 P Q 109 L st h = (P 110 L (.int (Int32.ofInt (0)) :: st) h) := rfl
theorem e159_110 : exq sa F N S rt cd159 P Q 110 L st h = (ald sa st h fun v s => P 111 L (.int v :: s) h) := rfl
theorem e159_111 : exq sa F N S rt cd159 P Q 111 L st h = (tI st fun a s => br (a = 0) (P 114 L s h) (P 130 L s h)) := rfl
theorem e159_114 : exq sa F N S rt cd159 P Q 114 L st h = (ldR L 0 fun v => P 115 L (v :: st) h) := rfl
theorem e159_115 : exq sa F N S rt cd159 P Q 115 L st h = (ivV F 158 1 7 st h fun r s h' => P 118 L (pu r s) h') := rfl
theorem e159_118 : exq sa F N S rt cd159 P Q 118 L st h = (tI st fun a s => br (a = 0) (P 121 L s h) (P 123 L s h)) := rfl
theorem e159_121 : exq sa F N S rt cd159 P Q 121 L st h = (P 122 L (.int (Int32.ofInt (0)) :: st) h) := rfl
theorem e159_122 : exq sa F N S rt cd159 P Q 122 L st h = (tI st fun v s => s = [] ∧ (rt = some .int ∨ (rt = some .boolean ∧ (v = 0 ∨ v = 1))) ∧ Q (some (.int v)) h) := rfl
theorem e159_123 : exq sa F N S rt cd159 P Q 123 L st h = (ldR L 0 fun v => P 124 L (v :: st) h) := rfl
theorem e159_124 : exq sa F N S rt cd159 P Q 124 L st h = (ivV F 151 1 7 st h fun r s h' => P 127 L (pu r s) h') := rfl
theorem e159_127 : exq sa F N S rt cd159 P Q 127 L st h = (P 97 L st h) := rfl
theorem e159_130 : exq sa F N S rt cd159 P Q 130 L st h = (P 131 L (.int (Int32.ofInt (1)) :: st) h) := rfl
theorem e159_131 : exq sa F N S rt cd159 P Q 131 L st h = (tI st fun v s => s = [] ∧ (rt = some .int ∨ (rt = some .boolean ∧ (v = 0 ∨ v = 1))) ∧ Q (some (.int v)) h) := rfl
theorem e160_0 : exq sa F N S rt cd160 P Q 0 L st h = (ldR L 0 fun v => P 1 L (v :: st) h) := rfl
theorem e160_1 : exq sa F N S rt cd160 P Q 1 L st h = (ivV F 159 1 7 st h fun r s h' => P 4 L (pu r s) h') := rfl
theorem e160_4 : exq sa F N S rt cd160 P Q 4 L st h = (tI st fun v s => lvS L 1 (.int v) fun L' => P 5 L' s h) := rfl
theorem e160_5 : exq sa F N S rt cd160 P Q 5 L st h = (ldR L 0 fun v => P 6 L (v :: st) h) := rfl
theorem e160_6 : exq sa F N S rt cd160 P Q 6 L st h = (tR st fun a s => opt (hO h a 7) fun fs => opt (fs[7]?) fun v => P 9 L (v :: s) h) := rfl
theorem e160_9 : exq sa F N S rt cd160 P Q 9 L st h = (P 10 L (.int (Int32.ofInt (-1)) :: st) h) := rfl
theorem e160_10 : exq sa F N S rt cd160 P Q 10 L st h = (tI st fun b s => tI s fun a s => br (a = b) (P 13 L s h) (P 20 L s h)) := rfl
theorem e160_13 : exq sa F N S rt cd160 P Q 13 L st h = (ldR L 0 fun v => P 14 L (v :: st) h) := rfl
theorem e160_14 : exq sa F N S rt cd160 P Q 14 L st h = (tR st fun a s => opt (hO h a 7) fun fs => opt (fs[4]?) fun v => P 17 L (v :: s) h) := rfl
theorem e160_17 : exq sa F N S rt cd160 P Q 17 L st h = (P 24 L st h) := rfl
theorem e160_20 : exq sa F N S rt cd160 P Q 20 L st h = (ldR L 0 fun v => P 21 L (v :: st) h) := rfl
theorem e160_21 : exq sa F N S rt cd160 P Q 21 L st h = (tR st fun a s => opt (hO h a 7) fun fs => opt (fs[9]?) fun v => P 24 L (v :: s) h) := rfl
theorem e160_24 : exq sa F N S rt cd160 P Q 24 L st h = (tI st fun v s => lvS L 2 (.int v) fun L' => P 25 L' s h) := rfl
theorem e160_25 : exq sa F N S rt cd160 P Q 25 L st h = (ldR L 0 fun v => P 26 L (v :: st) h) := rfl
theorem e160_26 : exq sa F N S rt cd160 P Q 26 L st h = (P 27 L (.int (Int32.ofInt (0)) :: st) h) := rfl
theorem e160_27 : exq sa F N S rt cd160 P Q 27 L st h = (pfd st h 7 4 0 fun s h' => P 30 L s h') := rfl
theorem e160_30 : exq sa F N S rt cd160 P Q 30 L st h = (ldI L 1 fun v => P 31 L (.int v :: st) h) := rfl
theorem e160_31 : exq sa F N S rt cd160 P Q 31 L st h = (tI st fun a s => br (a = 0) (P 34 L s h) (P 47 L s h)) := rfl
theorem e160_34 : exq sa F N S rt cd160 P Q 34 L st h = (ldR L 0 fun v => P 35 L (v :: st) h) := rfl
theorem e160_35 : exq sa F N S rt cd160 P Q 35 L st h = (ldR L 0 fun v => P 36 L (v :: st) h) := rfl
theorem e160_36 : exq sa F N S rt cd160 P Q 36 L st h = (tR st fun a s => opt (hO h a 7) fun fs => opt (fs[10]?) fun v => P 39 L (v :: s) h) := rfl
theorem e160_39 : exq sa F N S rt cd160 P Q 39 L st h = (pfd st h 7 11 0 fun s h' => P 42 L s h') := rfl
theorem e160_42 : exq sa F N S rt cd160 P Q 42 L st h = (P 44 L (.int (Int32.ofInt (-1000100)) :: st) h) := rfl
theorem e160_44 : exq sa F N S rt cd160 P Q 44 L st h = (ldI L 2 fun v => P 45 L (.int v :: st) h) := rfl
theorem e160_45 : exq sa F N S rt cd160 P Q 45 L st h = (tI st fun b s => tI s fun a s => P 46 L (.int (a - b) :: s) h) := rfl
theorem e160_46 : exq sa F N S rt cd160 P Q 46 L st h = (tI st fun v s => s = [] ∧ (rt = some .int ∨ (rt = some .boolean ∧ (v = 0 ∨ v = 1))) ∧ Q (some (.int v)) h) := rfl
theorem e160_47 : exq sa F N S rt cd160 P Q 47 L st h = (ldR L 0 fun v => P 48 L (v :: st) h) := rfl
theorem e160_48 : exq sa F N S rt cd160 P Q 48 L st h = (P 49 L (.int (Int32.ofInt (1)) :: st) h) := rfl
theorem e160_49 : exq sa F N S rt cd160 P Q 49 L st h = (pfd st h 7 15 1 fun s h' => P 52 L s h') := rfl
theorem e160_52 : exq sa F N S rt cd160 P Q 52 L st h = (P 53 L (.int (Int32.ofInt (0)) :: st) h) := rfl
theorem e160_53 : exq sa F N S rt cd160 P Q 53 L st h = (tI st fun v s => lvS L 3 (.int v) fun L' => P 54 L' s h) := rfl
theorem e160_54 : exq sa F N S rt cd160 P Q 54 L st h = (ldI L 3 fun v => P 55 L (.int v :: st) h) := rfl
theorem e160_55 : exq sa F N S rt cd160 P Q 55 L st h = (P 57 L (.int (Int32.ofInt (15)) :: st) h) := rfl
theorem e160_57 : exq sa F N S rt cd160 P Q 57 L st h = (tI st fun b s => tI s fun a s => br (b ≤ a) (P 78 L s h) (P 60 L s h)) := rfl
theorem e160_60 : exq sa F N S rt cd160 P Q 60 L st h = (ldR L 0 fun v => P 61 L (v :: st) h) := rfl
theorem e160_61 : exq sa F N S rt cd160 P Q 61 L st h = (tR st fun a s => opt (hO h a 7) fun fs => opt (fs[16]?) fun v => P 64 L (v :: s) h) := rfl
theorem e160_64 : exq sa F N S rt cd160 P Q 64 L st h = (ldI L 3 fun v => P 65 L (.int v :: st) h) := rfl
theorem e160_65 : exq sa F N S rt cd160 P Q 65 L st h = (ldR L 0 fun v => P 66 L (v :: st) h) := rfl
theorem e160_66 : exq sa F N S rt cd160 P Q 66 L st h = (tR st fun a s => opt (hO h a 7) fun fs => opt (fs[12]?) fun v => P 69 L (v :: s) h) := rfl
theorem e160_69 : exq sa F N S rt cd160 P Q 69 L st h = (ldI L 3 fun v => P 70 L (.int v :: st) h) := rfl
theorem e160_70 : exq sa F N S rt cd160 P Q 70 L st h = (ald sa st h fun v s => P 71 L (.int v :: s) h) := rfl
theorem e160_71 : exq sa F N S rt cd160 P Q 71 L st h = (tI st fun v s => tI s fun i s => tR s fun a s => opt (hI h a) fun q => ix i q.1 fun k => P 72 L s (hS h a (.inl (0, q.1, .inl (upd q.2 k v))))) := rfl
theorem e160_72 : exq sa F N S rt cd160 P Q 72 L st h = (ldI L 3 fun v => lvS L 3 (.int (v + Int32.ofInt (1))) fun L' => P 75 L' st h) := rfl
theorem e160_75 : exq sa F N S rt cd160 P Q 75 L st h = (P 54 L st h) := rfl
theorem e160_78 : exq sa F N S rt cd160 P Q 78 L st h = (P 79 L (.int (Int32.ofInt (0)) :: st) h) := rfl
theorem e160_79 : exq sa F N S rt cd160 P Q 79 L st h = (tI st fun v s => lvS L 3 (.int v) fun L' => P 80 L' s h) := rfl
theorem e160_80 : exq sa F N S rt cd160 P Q 80 L st h = (ldI L 3 fun v => P 81 L (.int v :: st) h) := rfl
theorem e160_81 : exq sa F N S rt cd160 P Q 81 L st h = (P 83 L (.int (Int32.ofInt (34)) :: st) h) := rfl
theorem e160_83 : exq sa F N S rt cd160 P Q 83 L st h = (tI st fun b s => tI s fun a s => br (b ≤ a) (P 104 L s h) (P 86 L s h)) := rfl
theorem e160_86 : exq sa F N S rt cd160 P Q 86 L st h = (ldR L 0 fun v => P 87 L (v :: st) h) := rfl
theorem e160_87 : exq sa F N S rt cd160 P Q 87 L st h = (tR st fun a s => opt (hO h a 7) fun fs => opt (fs[17]?) fun v => P 90 L (v :: s) h) := rfl
theorem e160_90 : exq sa F N S rt cd160 P Q 90 L st h = (ldI L 3 fun v => P 91 L (.int v :: st) h) := rfl
theorem e160_91 : exq sa F N S rt cd160 P Q 91 L st h = (ldR L 0 fun v => P 92 L (v :: st) h) := rfl
theorem e160_92 : exq sa F N S rt cd160 P Q 92 L st h = (tR st fun a s => opt (hO h a 7) fun fs => opt (fs[13]?) fun v => P 95 L (v :: s) h) := rfl
theorem e160_95 : exq sa F N S rt cd160 P Q 95 L st h = (ldI L 3 fun v => P 96 L (.int v :: st) h) := rfl
theorem e160_96 : exq sa F N S rt cd160 P Q 96 L st h = (ald sa st h fun v s => P 97 L (.int v :: s) h) := rfl
theorem e160_97 : exq sa F N S rt cd160 P Q 97 L st h = (tI st fun v s => tI s fun i s => tR s fun a s => opt (hI h a) fun q => ix i q.1 fun k => P 98 L s (hS h a (.inl (0, q.1, .inl (upd q.2 k v))))) := rfl
theorem e160_98 : exq sa F N S rt cd160 P Q 98 L st h = (ldI L 3 fun v => lvS L 3 (.int (v + Int32.ofInt (1))) fun L' => P 101 L' st h) := rfl
theorem e160_101 : exq sa F N S rt cd160 P Q 101 L st h = (P 80 L st h) := rfl
theorem e160_104 : exq sa F N S rt cd160 P Q 104 L st h = (ldR L 0 fun v => P 105 L (v :: st) h) := rfl
theorem e160_105 : exq sa F N S rt cd160 P Q 105 L st h = (P 106 L (.int (Int32.ofInt (0)) :: st) h) := rfl
theorem e160_106 : exq sa F N S rt cd160 P Q 106 L st h = (pfd st h 7 20 0 fun s h' => P 109 L s h') := rfl
theorem e160_109 : exq sa F N S rt cd160 P Q 109 L st h = (ldR L 0 fun v => P 110 L (v :: st) h) := rfl
theorem e160_110 : exq sa F N S rt cd160 P Q 110 L st h = (tR st fun a s => opt (hO h a 7) fun fs => opt (fs[16]?) fun v => P 113 L (v :: s) h) := rfl
theorem e160_113 : exq sa F N S rt cd160 P Q 113 L st h = (P 114 L (.int (Int32.ofInt (0)) :: st) h) := rfl
theorem e160_114 : exq sa F N S rt cd160 P Q 114 L st h = (ald sa st h fun v s => P 115 L (.int v :: s) h) := rfl
theorem e160_115 : exq sa F N S rt cd160 P Q 115 L st h = (tI st fun v s => s = [] ∧ (rt = some .int ∨ (rt = some .boolean ∧ (v = 0 ∨ v = 1))) ∧ Q (some (.int v)) h) := rfl
theorem e161_0 : exq sa F N S rt cd161 P Q 0 L st h = (ldR L 0 fun v => P 1 L (v :: st) h) := rfl
theorem e161_1 : exq sa F N S rt cd161 P Q 1 L st h = (tR st fun a s => opt (hO h a 7) fun fs => opt (fs[11]?) fun v => P 4 L (v :: s) h) := rfl
theorem e161_4 : exq sa F N S rt cd161 P Q 4 L st h = (tI st fun v s => s = [] ∧ (rt = some .int ∨ (rt = some .boolean ∧ (v = 0 ∨ v = 1))) ∧ Q (some (.int v)) h) := rfl
theorem e162_0 : exq sa F N S rt cd162 P Q 0 L st h = (ldI L 1 fun v => P 1 L (.int v :: st) h) := rfl
theorem e162_1 : exq sa F N S rt cd162 P Q 1 L st h = (P 2 L (.int (Int32.ofInt (0)) :: st) h) := rfl
theorem e162_2 : exq sa F N S rt cd162 P Q 2 L st h = (ldR L 0 fun v => P 3 L (v :: st) h) := rfl
theorem e162_3 : exq sa F N S rt cd162 P Q 3 L st h = (tR st fun a s => opt (hO h a 7) fun fs => opt (fs[16]?) fun v => P 6 L (v :: s) h) := rfl
theorem e162_6 : exq sa F N S rt cd162 P Q 6 L st h = (P 7 L (.int (Int32.ofInt (0)) :: st) h) := rfl
theorem e162_7 : exq sa F N S rt cd162 P Q 7 L st h = (ald sa st h fun v s => P 8 L (.int v :: s) h) := rfl
theorem e162_8 : exq sa F N S rt cd162 P Q 8 L st h = (P 9 L (.int (Int32.ofInt (1)) :: st) h) := rfl
theorem e162_9 : exq sa F N S rt cd162 P Q 9 L st h = (tI st fun b s => tI s fun a s => P 10 L (.int (a - b) :: s) h) := rfl
theorem e162_10 : exq sa F N S rt cd162 P Q 10 L st h = (ivS F 135 3 st h fun r s h' => P 13 L (pu r s) h') := rfl
theorem e162_13 : exq sa F N S rt cd162 P Q 13 L st h = (tI st fun v s => s = [] ∧ (rt = some .int ∨ (rt = some .boolean ∧ (v = 0 ∨ v = 1))) ∧ Q (some (.int v)) h) := rfl
theorem e163_0 : exq sa F N S rt cd163 P Q 0 L st h = (ldI L 1 fun v => P 1 L (.int v :: st) h) := rfl
theorem e163_1 : exq sa F N S rt cd163 P Q 1 L st h = (P 2 L (.int (Int32.ofInt (0)) :: st) h) := rfl
theorem e163_2 : exq sa F N S rt cd163 P Q 2 L st h = (ldR L 0 fun v => P 3 L (v :: st) h) := rfl
theorem e163_3 : exq sa F N S rt cd163 P Q 3 L st h = (tR st fun a s => opt (hO h a 7) fun fs => opt (fs[16]?) fun v => P 6 L (v :: s) h) := rfl
theorem e163_6 : exq sa F N S rt cd163 P Q 6 L st h = (P 7 L (.int (Int32.ofInt (1)) :: st) h) := rfl
theorem e163_7 : exq sa F N S rt cd163 P Q 7 L st h = (ald sa st h fun v s => P 8 L (.int v :: s) h) := rfl
theorem e163_8 : exq sa F N S rt cd163 P Q 8 L st h = (P 9 L (.int (Int32.ofInt (1)) :: st) h) := rfl
theorem e163_9 : exq sa F N S rt cd163 P Q 9 L st h = (tI st fun b s => tI s fun a s => P 10 L (.int (a - b) :: s) h) := rfl
theorem e163_10 : exq sa F N S rt cd163 P Q 10 L st h = (ivS F 135 3 st h fun r s h' => P 13 L (pu r s) h') := rfl
theorem e163_13 : exq sa F N S rt cd163 P Q 13 L st h = (tI st fun v s => s = [] ∧ (rt = some .int ∨ (rt = some .boolean ∧ (v = 0 ∨ v = 1))) ∧ Q (some (.int v)) h) := rfl
theorem e164_0 : exq sa F N S rt cd164 P Q 0 L st h = (ldI L 1 fun v => P 1 L (.int v :: st) h) := rfl
theorem e164_1 : exq sa F N S rt cd164 P Q 1 L st h = (P 2 L (.int (Int32.ofInt (0)) :: st) h) := rfl
theorem e164_2 : exq sa F N S rt cd164 P Q 2 L st h = (ldR L 0 fun v => P 3 L (v :: st) h) := rfl
theorem e164_3 : exq sa F N S rt cd164 P Q 3 L st h = (tR st fun a s => opt (hO h a 7) fun fs => opt (fs[16]?) fun v => P 6 L (v :: s) h) := rfl
theorem e164_6 : exq sa F N S rt cd164 P Q 6 L st h = (P 7 L (.int (Int32.ofInt (2)) :: st) h) := rfl
theorem e164_7 : exq sa F N S rt cd164 P Q 7 L st h = (ald sa st h fun v s => P 8 L (.int v :: s) h) := rfl
theorem e164_8 : exq sa F N S rt cd164 P Q 8 L st h = (P 9 L (.int (Int32.ofInt (1)) :: st) h) := rfl
theorem e164_9 : exq sa F N S rt cd164 P Q 9 L st h = (tI st fun b s => tI s fun a s => P 10 L (.int (a - b) :: s) h) := rfl
theorem e164_10 : exq sa F N S rt cd164 P Q 10 L st h = (ivS F 135 3 st h fun r s h' => P 13 L (pu r s) h') := rfl
theorem e164_13 : exq sa F N S rt cd164 P Q 13 L st h = (tI st fun v s => s = [] ∧ (rt = some .int ∨ (rt = some .boolean ∧ (v = 0 ∨ v = 1))) ∧ Q (some (.int v)) h) := rfl
theorem e165_0 : exq sa F N S rt cd165 P Q 0 L st h = (ldI L 0 fun v => P 1 L (.int v :: st) h) := rfl
theorem e165_1 : exq sa F N S rt cd165 P Q 1 L st h = (ldI L 1 fun v => P 2 L (.int v :: st) h) := rfl
theorem e165_2 : exq sa F N S rt cd165 P Q 2 L st h = (tI st fun b s => tI s fun a s => br (b ≤ a) (P 11 L s h) (P 5 L s h)) := rfl
theorem e165_5 : exq sa F N S rt cd165 P Q 5 L st h = (ldI L 1 fun v => P 6 L (.int v :: st) h) := rfl
theorem e165_6 : exq sa F N S rt cd165 P Q 6 L st h = (ldI L 0 fun v => P 7 L (.int v :: st) h) := rfl
theorem e165_7 : exq sa F N S rt cd165 P Q 7 L st h = (tI st fun b s => tI s fun a s => P 8 L (.int (a - b) :: s) h) := rfl
theorem e165_8 : exq sa F N S rt cd165 P Q 8 L st h = (P 14 L st h) := rfl
theorem e165_11 : exq sa F N S rt cd165 P Q 11 L st h = (ldI L 0 fun v => P 12 L (.int v :: st) h) := rfl
theorem e165_12 : exq sa F N S rt cd165 P Q 12 L st h = (ldI L 1 fun v => P 13 L (.int v :: st) h) := rfl
theorem e165_13 : exq sa F N S rt cd165 P Q 13 L st h = (tI st fun b s => tI s fun a s => P 14 L (.int (a - b) :: s) h) := rfl
theorem e165_14 : exq sa F N S rt cd165 P Q 14 L st h = (tI st fun v s => s = [] ∧ (rt = some .int ∨ (rt = some .boolean ∧ (v = 0 ∨ v = 1))) ∧ Q (some (.int v)) h) := rfl
theorem e166_0 : exq sa F N S rt cd166 P Q 0 L st h = (P 2 L (.int (Int32.ofInt (-1000000)) :: st) h) := rfl
theorem e166_2 : exq sa F N S rt cd166 P Q 2 L st h = (tI st fun v s => lvS L 4 (.int v) fun L' => P 4 L' s h) := rfl
theorem e166_4 : exq sa F N S rt cd166 P Q 4 L st h = (P 6 L (.int (Int32.ofInt (1000000)) :: st) h) := rfl
theorem e166_6 : exq sa F N S rt cd166 P Q 6 L st h = (tI st fun v s => lvS L 5 (.int v) fun L' => P 8 L' s h) := rfl
theorem e166_8 : exq sa F N S rt cd166 P Q 8 L st h = (P 9 L (.int (Int32.ofInt (0)) :: st) h) := rfl
theorem e166_9 : exq sa F N S rt cd166 P Q 9 L st h = (tI st fun v s => lvS L 6 (.int v) fun L' => P 11 L' s h) := rfl
theorem e166_11 : exq sa F N S rt cd166 P Q 11 L st h = (ldI L 6 fun v => P 13 L (.int v :: st) h) := rfl
theorem e166_13 : exq sa F N S rt cd166 P Q 13 L st h = (ldR L 0 fun v => P 14 L (v :: st) h) := rfl
theorem e166_14 : exq sa F N S rt cd166 P Q 14 L st h = (tR st fun a s => opt (hO h a 7) fun fs => opt (fs[16]?) fun v => P 17 L (v :: s) h) := rfl
theorem e166_17 : exq sa F N S rt cd166 P Q 17 L st h = (P 18 L (.int (Int32.ofInt (1)) :: st) h) := rfl
theorem e166_18 : exq sa F N S rt cd166 P Q 18 L st h = (ald sa st h fun v s => P 19 L (.int v :: s) h) := rfl
theorem e166_19 : exq sa F N S rt cd166 P Q 19 L st h = (tI st fun b s => tI s fun a s => br (b ≤ a) (P 118 L s h) (P 22 L s h)) := rfl
theorem e166_22 : exq sa F N S rt cd166 P Q 22 L st h = (ldR L 1 fun v => P 23 L (v :: st) h) := rfl
theorem e166_23 : exq sa F N S rt cd166 P Q 23 L st h = (P 24 L (.int (Int32.ofInt (2)) :: st) h) := rfl
theorem e166_24 : exq sa F N S rt cd166 P Q 24 L st h = (ldI L 6 fun v => P 26 L (.int v :: st) h) := rfl
theorem e166_26 : exq sa F N S rt cd166 P Q 26 L st h = (tI st fun b s => tI s fun a s => P 27 L (.int (a + b) :: s) h) := rfl
theorem e166_27 : exq sa F N S rt cd166 P Q 27 L st h = (ald sa st h fun v s => P 28 L (.int v :: s) h) := rfl
theorem e166_28 : exq sa F N S rt cd166 P Q 28 L st h = (ldI L 2 fun v => P 29 L (.int v :: st) h) := rfl
theorem e166_29 : exq sa F N S rt cd166 P Q 29 L st h = (ivS F 165 2 st h fun r s h' => P 32 L (pu r s) h') := rfl
theorem e166_32 : exq sa F N S rt cd166 P Q 32 L st h = (ldI L 3 fun v => P 33 L (.int v :: st) h) := rfl
theorem e166_33 : exq sa F N S rt cd166 P Q 33 L st h = (tI st fun a s => br (a = 0) (P 55 L s h) (P 36 L s h)) := rfl
theorem e166_36 : exq sa F N S rt cd166 P Q 36 L st h = (P 38 L (.int (Int32.ofInt (100)) :: st) h) := rfl
theorem e166_38 : exq sa F N S rt cd166 P Q 38 L st h = (P 40 L (.int (Int32.ofInt (9)) :: st) h) := rfl
theorem e166_40 : exq sa F N S rt cd166 P Q 40 L st h = (ldR L 0 fun v => P 41 L (v :: st) h) := rfl
theorem e166_41 : exq sa F N S rt cd166 P Q 41 L st h = (tR st fun a s => opt (hO h a 7) fun fs => opt (fs[16]?) fun v => P 44 L (v :: s) h) := rfl
theorem e166_44 : exq sa F N S rt cd166 P Q 44 L st h = (P 46 L (.int (Int32.ofInt (9)) :: st) h) := rfl
theorem e166_46 : exq sa F N S rt cd166 P Q 46 L st h = (ldI L 6 fun v => P 48 L (.int v :: st) h) := rfl
theorem e166_48 : exq sa F N S rt cd166 P Q 48 L st h = (tI st fun b s => tI s fun a s => P 49 L (.int (a + b) :: s) h) := rfl
theorem e166_49 : exq sa F N S rt cd166 P Q 49 L st h = (ald sa st h fun v s => P 50 L (.int v :: s) h) := rfl
theorem e166_50 : exq sa F N S rt cd166 P Q 50 L st h = (tI st fun b s => tI s fun a s => P 51 L (.int (a - b) :: s) h) := rfl
theorem e166_51 : exq sa F N S rt cd166 P Q 51 L st h = (tI st fun b s => tI s fun a s => P 52 L (.int (a * b) :: s) h) := rfl
theorem e166_52 : exq sa F N S rt cd166 P Q 52 L st h = (P 56 L st h) := rfl
theorem e166_55 : exq sa F N S rt cd166 P Q 55 L st h = (P 56 L (.int (Int32.ofInt (0)) :: st) h) := rfl
theorem e166_56 : exq sa F N S rt cd166 P Q 56 L st h = (tI st fun b s => tI s fun a s => P 57 L (.int (a + b) :: s) h) := rfl
theorem e166_57 : exq sa F N S rt cd166 P Q 57 L st h = (tI st fun v s => lvS L 7 (.int v) fun L' => P 59 L' s h) := rfl
theorem e166_59 : exq sa F N S rt cd166 P Q 59 L st h = (ldR L 1 fun v => P 60 L (v :: st) h) := rfl
theorem e166_60 : exq sa F N S rt cd166 P Q 60 L st h = (P 61 L (.int (Int32.ofInt (1)) :: st) h) := rfl
theorem e166_61 : exq sa F N S rt cd166 P Q 61 L st h = (ald sa st h fun v s => P 62 L (.int v :: s) h) := rfl
theorem e166_62 : exq sa F N S rt cd166 P Q 62 L st h = (ldI L 6 fun v => P 64 L (.int v :: st) h) := rfl
theorem e166_64 : exq sa F N S rt cd166 P Q 64 L st h = (ivS F 136 2 st h fun r s h' => P 67 L (pu r s) h') := rfl
theorem e166_67 : exq sa F N S rt cd166 P Q 67 L st h = (tI st fun a s => br (a = 0) (P 70 L s h) (P 81 L s h)) := rfl
theorem e166_70 : exq sa F N S rt cd166 P Q 70 L st h = (ldI L 7 fun v => P 72 L (.int v :: st) h) := rfl
theorem e166_72 : exq sa F N S rt cd166 P Q 72 L st h = (ldI L 5 fun v => P 74 L (.int v :: st) h) := rfl
theorem e166_74 : exq sa F N S rt cd166 P Q 74 L st h = (tI st fun b s => tI s fun a s => br (b ≤ a) (P 81 L s h) (P 77 L s h)) := rfl
theorem e166_77 : exq sa F N S rt cd166 P Q 77 L st h = (P 78 L (.int (Int32.ofInt (1)) :: st) h) := rfl
theorem e166_78 : exq sa F N S rt cd166 P Q 78 L st h = (P 82 L st h) := rfl
theorem e166_81 : exq sa F N S rt cd166 P Q 81 L st h = (P 82 L (.int (Int32.ofInt (0)) :: st) h) := rfl
theorem e166_82 : exq sa F N S rt cd166 P Q 82 L st h = (tI st fun v s => lvS L 8 (.int v) fun L' => P 84 L' s h) := rfl
theorem e166_84 : exq sa F N S rt cd166 P Q 84 L st h = (ldI L 8 fun v => P 86 L (.int v :: st) h) := rfl
theorem e166_86 : exq sa F N S rt cd166 P Q 86 L st h = (tI st fun a s => br (a = 0) (P 94 L s h) (P 89 L s h)) := rfl
theorem e166_89 : exq sa F N S rt cd166 P Q 89 L st h = (ldI L 6 fun v => P 91 L (.int v :: st) h) := rfl
theorem e166_91 : exq sa F N S rt cd166 P Q 91 L st h = (P 96 L st h) := rfl
theorem e166_94 : exq sa F N S rt cd166 P Q 94 L st h = (ldI L 4 fun v => P 96 L (.int v :: st) h) := rfl
theorem e166_96 : exq sa F N S rt cd166 P Q 96 L st h = (tI st fun v s => lvS L 4 (.int v) fun L' => P 98 L' s h) := rfl
theorem e166_98 : exq sa F N S rt cd166 P Q 98 L st h = (ldI L 8 fun v => P 100 L (.int v :: st) h) := rfl
theorem e166_100 : exq sa F N S rt cd166 P Q 100 L st h = (tI st fun a s => br (a = 0) (P 108 L s h) (P 103 L s h)) := rfl
theorem e166_103 : exq sa F N S rt cd166 P Q 103 L st h = (ldI L 7 fun v => P 105 L (.int v :: st) h) := rfl
theorem e166_105 : exq sa F N S rt cd166 P Q 105 L st h = (P 110 L st h) := rfl
theorem e166_108 : exq sa F N S rt cd166 P Q 108 L st h = (ldI L 5 fun v => P 110 L (.int v :: st) h) := rfl
theorem e166_110 : exq sa F N S rt cd166 P Q 110 L st h = (tI st fun v s => lvS L 5 (.int v) fun L' => P 112 L' s h) := rfl
theorem e166_112 : exq sa F N S rt cd166 P Q 112 L st h = (ldI L 6 fun v => lvS L 6 (.int (v + Int32.ofInt (1))) fun L' => P 115 L' st h) := rfl
theorem e166_115 : exq sa F N S rt cd166 P Q 115 L st h = (P 11 L st h) := rfl
theorem e166_118 : exq sa F N S rt cd166 P Q 118 L st h = (ldI L 4 fun v => P 120 L (.int v :: st) h) := rfl
theorem e166_120 : exq sa F N S rt cd166 P Q 120 L st h = (tI st fun v s => s = [] ∧ (rt = some .int ∨ (rt = some .boolean ∧ (v = 0 ∨ v = 1))) ∧ Q (some (.int v)) h) := rfl
theorem e167_0 : exq sa F N S rt cd167 P Q 0 L st h = (ldR L 0 fun v => P 1 L (v :: st) h) := rfl
theorem e167_1 : exq sa F N S rt cd167 P Q 1 L st h = (tR st fun a s => opt (hO h a 7) fun fs => opt (fs[16]?) fun v => P 4 L (v :: s) h) := rfl
theorem e167_4 : exq sa F N S rt cd167 P Q 4 L st h = (P 5 L (.int (Int32.ofInt (4)) :: st) h) := rfl
theorem e167_5 : exq sa F N S rt cd167 P Q 5 L st h = (ldI L 2 fun v => P 6 L (.int v :: st) h) := rfl
theorem e167_6 : exq sa F N S rt cd167 P Q 6 L st h = (tI st fun b s => tI s fun a s => P 7 L (.int (a + b) :: s) h) := rfl
theorem e167_7 : exq sa F N S rt cd167 P Q 7 L st h = (ald sa st h fun v s => P 8 L (.int v :: s) h) := rfl
theorem e167_8 : exq sa F N S rt cd167 P Q 8 L st h = (tI st fun v s => lvS L 3 (.int v) fun L' => P 9 L' s h) := rfl
theorem e167_9 : exq sa F N S rt cd167 P Q 9 L st h = (ldI L 3 fun v => P 10 L (.int v :: st) h) := rfl
theorem e167_10 : exq sa F N S rt cd167 P Q 10 L st h = (P 11 L (.int (Int32.ofInt (1)) :: st) h) := rfl
theorem e167_11 : exq sa F N S rt cd167 P Q 11 L st h = (tI st fun b s => tI s fun a s => br (a = b) (P 19 L s h) (P 14 L s h)) := rfl
theorem e167_14 : exq sa F N S rt cd167 P Q 14 L st h = (ldI L 3 fun v => P 15 L (.int v :: st) h) := rfl
theorem e167_15 : exq sa F N S rt cd167 P Q 15 L st h = (P 16 L (.int (Int32.ofInt (2)) :: st) h) := rfl
theorem e167_16 : exq sa F N S rt cd167 P Q 16 L st h = (tI st fun b s => tI s fun a s => br (a = b) (P 19 L s h) (P 43 L s h)) := rfl
theorem e167_19 : exq sa F N S rt cd167 P Q 19 L st h = (ldR L 0 fun v => P 20 L (v :: st) h) := rfl
theorem e167_20 : exq sa F N S rt cd167 P Q 20 L st h = (ldR L 1 fun v => P 21 L (v :: st) h) := rfl
theorem e167_21 : exq sa F N S rt cd167 P Q 21 L st h = (ldR L 1 fun v => P 22 L (v :: st) h) := rfl
theorem e167_22 : exq sa F N S rt cd167 P Q 22 L st h = (P 24 L (.int (Int32.ofInt (19)) :: st) h) := rfl
theorem e167_24 : exq sa F N S rt cd167 P Q 24 L st h = (ldI L 2 fun v => P 25 L (.int v :: st) h) := rfl
theorem e167_25 : exq sa F N S rt cd167 P Q 25 L st h = (tI st fun b s => tI s fun a s => P 26 L (.int (a + b) :: s) h) := rfl
theorem e167_26 : exq sa F N S rt cd167 P Q 26 L st h = (ald sa st h fun v s => P 27 L (.int v :: s) h) := rfl
theorem e167_27 : exq sa F N S rt cd167 P Q 27 L st h = (ldI L 3 fun v => P 28 L (.int v :: st) h) := rfl
theorem e167_28 : exq sa F N S rt cd167 P Q 28 L st h = (P 29 L (.int (Int32.ofInt (2)) :: st) h) := rfl
theorem e167_29 : exq sa F N S rt cd167 P Q 29 L st h = (tI st fun b s => tI s fun a s => br (a = b) (P 32 L s h) (P 36 L s h)) := rfl
theorem e167_32 : exq sa F N S rt cd167 P Q 32 L st h = (P 33 L (.int (Int32.ofInt (1)) :: st) h) := rfl
theorem e167_33 : exq sa F N S rt cd167 P Q 33 L st h = (P 37 L st h) := rfl
theorem e167_36 : exq sa F N S rt cd167 P Q 36 L st h = (P 37 L (.int (Int32.ofInt (0)) :: st) h) := rfl
theorem e167_37 : exq sa F N S rt cd167 P Q 37 L st h = (ivV F 166 4 7 st h fun r s h' => P 40 L (pu r s) h') := rfl
theorem e167_40 : exq sa F N S rt cd167 P Q 40 L st h = (P 45 L st h) := rfl
theorem e167_43 : exq sa F N S rt cd167 P Q 43 L st h = (P 45 L (.int (Int32.ofInt (-1000000)) :: st) h) := rfl
theorem e167_45 : exq sa F N S rt cd167 P Q 45 L st h = (tI st fun v s => s = [] ∧ (rt = some .int ∨ (rt = some .boolean ∧ (v = 0 ∨ v = 1))) ∧ Q (some (.int v)) h) := rfl
theorem e168_0 : exq sa F N S rt cd168 P Q 0 L st h = (ldI L 0 fun v => P 1 L (.int v :: st) h) := rfl
theorem e168_1 : exq sa F N S rt cd168 P Q 1 L st h = (ldI L 1 fun v => P 2 L (.int v :: st) h) := rfl
theorem e168_2 : exq sa F N S rt cd168 P Q 2 L st h = (ivS F 165 2 st h fun r s h' => P 5 L (pu r s) h') := rfl
theorem e168_5 : exq sa F N S rt cd168 P Q 5 L st h = (ldI L 2 fun v => P 6 L (.int v :: st) h) := rfl
theorem e168_6 : exq sa F N S rt cd168 P Q 6 L st h = (tI st fun b s => tI s fun a s => br (b < a) (P 13 L s h) (P 9 L s h)) := rfl
theorem e168_9 : exq sa F N S rt cd168 P Q 9 L st h = (ldI L 1 fun v => P 10 L (.int v :: st) h) := rfl
theorem e168_10 : exq sa F N S rt cd168 P Q 10 L st h = (P 27 L st h) := rfl
theorem e168_13 : exq sa F N S rt cd168 P Q 13 L st h = (ldI L 0 fun v => P 14 L (.int v :: st) h) := rfl
theorem e168_14 : exq sa F N S rt cd168 P Q 14 L st h = (ldI L 1 fun v => P 15 L (.int v :: st) h) := rfl
theorem e168_15 : exq sa F N S rt cd168 P Q 15 L st h = (tI st fun b s => tI s fun a s => br (b ≤ a) (P 24 L s h) (P 18 L s h)) := rfl
theorem e168_18 : exq sa F N S rt cd168 P Q 18 L st h = (ldI L 0 fun v => P 19 L (.int v :: st) h) := rfl
theorem e168_19 : exq sa F N S rt cd168 P Q 19 L st h = (ldI L 2 fun v => P 20 L (.int v :: st) h) := rfl
theorem e168_20 : exq sa F N S rt cd168 P Q 20 L st h = (tI st fun b s => tI s fun a s => P 21 L (.int (a + b) :: s) h) := rfl
theorem e168_21 : exq sa F N S rt cd168 P Q 21 L st h = (P 27 L st h) := rfl
theorem e168_24 : exq sa F N S rt cd168 P Q 24 L st h = (ldI L 0 fun v => P 25 L (.int v :: st) h) := rfl
theorem e168_25 : exq sa F N S rt cd168 P Q 25 L st h = (ldI L 2 fun v => P 26 L (.int v :: st) h) := rfl
theorem e168_26 : exq sa F N S rt cd168 P Q 26 L st h = (tI st fun b s => tI s fun a s => P 27 L (.int (a - b) :: s) h) := rfl
theorem e168_27 : exq sa F N S rt cd168 P Q 27 L st h = (tI st fun v s => s = [] ∧ (rt = some .int ∨ (rt = some .boolean ∧ (v = 0 ∨ v = 1))) ∧ Q (some (.int v)) h) := rfl
theorem e169_0 : exq sa F N S rt cd169 P Q 0 L st h = (ldR L 1 fun v => P 1 L (v :: st) h) := rfl
theorem e169_1 : exq sa F N S rt cd169 P Q 1 L st h = (P 3 L (.int (Int32.ofInt (19)) :: st) h) := rfl
theorem e169_3 : exq sa F N S rt cd169 P Q 3 L st h = (ldI L 2 fun v => P 4 L (.int v :: st) h) := rfl
theorem e169_4 : exq sa F N S rt cd169 P Q 4 L st h = (tI st fun b s => tI s fun a s => P 5 L (.int (a + b) :: s) h) := rfl
theorem e169_5 : exq sa F N S rt cd169 P Q 5 L st h = (ald sa st h fun v s => P 6 L (.int v :: s) h) := rfl
theorem e169_6 : exq sa F N S rt cd169 P Q 6 L st h = (tI st fun v s => lvS L 3 (.int v) fun L' => P 7 L' s h) := rfl
theorem e169_7 : exq sa F N S rt cd169 P Q 7 L st h = (ldR L 0 fun v => P 8 L (v :: st) h) := rfl
theorem e169_8 : exq sa F N S rt cd169 P Q 8 L st h = (ldR L 1 fun v => P 9 L (v :: st) h) := rfl
theorem e169_9 : exq sa F N S rt cd169 P Q 9 L st h = (ldI L 2 fun v => P 10 L (.int v :: st) h) := rfl
theorem e169_10 : exq sa F N S rt cd169 P Q 10 L st h = (ivV F 167 3 7 st h fun r s h' => P 13 L (pu r s) h') := rfl
theorem e169_13 : exq sa F N S rt cd169 P Q 13 L st h = (tI st fun v s => lvS L 4 (.int v) fun L' => P 15 L' s h) := rfl
theorem e169_15 : exq sa F N S rt cd169 P Q 15 L st h = (ldR L 0 fun v => P 16 L (v :: st) h) := rfl
theorem e169_16 : exq sa F N S rt cd169 P Q 16 L st h = (tR st fun a s => opt (hO h a 7) fun fs => opt (fs[16]?) fun v => P 19 L (v :: s) h) := rfl
theorem e169_19 : exq sa F N S rt cd169 P Q 19 L st h = (P 20 L (.int (Int32.ofInt (4)) :: st) h) := rfl
theorem e169_20 : exq sa F N S rt cd169 P Q 20 L st h = (ldI L 2 fun v => P 21 L (.int v :: st) h) := rfl
theorem e169_21 : exq sa F N S rt cd169 P Q 21 L st h = (tI st fun b s => tI s fun a s => P 22 L (.int (a + b) :: s) h) := rfl
theorem e169_22 : exq sa F N S rt cd169 P Q 22 L st h = (ald sa st h fun v s => P 23 L (.int v :: s) h) := rfl
theorem e169_23 : exq sa F N S rt cd169 P Q 23 L st h = (ex1 sa F N S rt P Q 23 L st h (.tableswitch 110 1 5 #[33, 33, 110, 71, 90]) 0 0 0 0) := rfl
theorem e169_56 : exq sa F N S rt cd169 P Q 56 L st h = (ldR L 1 fun v => P 57 L (v :: st) h) := rfl
theorem e169_57 : exq sa F N S rt cd169 P Q 57 L st h = (P 59 L (.int (Int32.ofInt (19)) :: st) h) := rfl
theorem e169_59 : exq sa F N S rt cd169 P Q 59 L st h = (ldI L 2 fun v => P 60 L (.int v :: st) h) := rfl
theorem e169_60 : exq sa F N S rt cd169 P Q 60 L st h = (tI st fun b s => tI s fun a s => P 61 L (.int (a + b) :: s) h) := rfl
theorem e169_61 : exq sa F N S rt cd169 P Q 61 L st h = (ldI L 4 fun v => P 63 L (.int v :: st) h) := rfl
theorem e169_63 : exq sa F N S rt cd169 P Q 63 L st h = (P 65 L (.int (Int32.ofInt (-1000000)) :: st) h) := rfl
theorem e169_65 : exq sa F N S rt cd169 P Q 65 L st h = (tI st fun b s => tI s fun a s => br (a = b) (P 68 L s h) (P 72 L s h)) := rfl
theorem e169_68 : exq sa F N S rt cd169 P Q 68 L st h = (ldI L 3 fun v => P 69 L (.int v :: st) h) := rfl
theorem e169_69 : exq sa F N S rt cd169 P Q 69 L st h = (P 90 L st h) := rfl
theorem e169_72 : exq sa F N S rt cd169 P Q 72 L st h = (ldI L 3 fun v => P 73 L (.int v :: st) h) := rfl
theorem e169_73 : exq sa F N S rt cd169 P Q 73 L st h = (ldR L 1 fun v => P 74 L (v :: st) h) := rfl
theorem e169_74 : exq sa F N S rt cd169 P Q 74 L st h = (P 75 L (.int (Int32.ofInt (2)) :: st) h) := rfl
theorem e169_75 : exq sa F N S rt cd169 P Q 75 L st h = (ldI L 4 fun v => P 77 L (.int v :: st) h) := rfl
theorem e169_77 : exq sa F N S rt cd169 P Q 77 L st h = (tI st fun b s => tI s fun a s => P 78 L (.int (a + b) :: s) h) := rfl
theorem e169_78 : exq sa F N S rt cd169 P Q 78 L st h = (ald sa st h fun v s => P 79 L (.int v :: s) h) := rfl
theorem e169_79 : exq sa F N S rt cd169 P Q 79 L st h = (ldR L 0 fun v => P 80 L (v :: st) h) := rfl
theorem e169_80 : exq sa F N S rt cd169 P Q 80 L st h = (tR st fun a s => opt (hO h a 7) fun fs => opt (fs[16]?) fun v => P 83 L (v :: s) h) := rfl
theorem e169_83 : exq sa F N S rt cd169 P Q 83 L st h = (P 84 L (.int (Int32.ofInt (4)) :: st) h) := rfl
theorem e169_84 : exq sa F N S rt cd169 P Q 84 L st h = (ldI L 2 fun v => P 85 L (.int v :: st) h) := rfl
theorem e169_85 : exq sa F N S rt cd169 P Q 85 L st h = (tI st fun b s => tI s fun a s => P 86 L (.int (a + b) :: s) h) := rfl
theorem e169_86 : exq sa F N S rt cd169 P Q 86 L st h = (ald sa st h fun v s => P 87 L (.int v :: s) h) := rfl
theorem e169_87 : exq sa F N S rt cd169 P Q 87 L st h = (ivS F 168 3 st h fun r s h' => P 90 L (pu r s) h') := rfl
theorem e169_90 : exq sa F N S rt cd169 P Q 90 L st h = (tI st fun v s => tI s fun i s => tR s fun a s => opt (hI h a) fun q => ix i q.1 fun k => P 91 L s (hS h a (.inl (0, q.1, .inl (upd q.2 k v))))) := rfl
theorem e169_91 : exq sa F N S rt cd169 P Q 91 L st h = (P 133 L st h) := rfl
theorem e169_94 : exq sa F N S rt cd169 P Q 94 L st h = (ldR L 1 fun v => P 95 L (v :: st) h) := rfl
theorem e169_95 : exq sa F N S rt cd169 P Q 95 L st h = (P 97 L (.int (Int32.ofInt (19)) :: st) h) := rfl
theorem e169_97 : exq sa F N S rt cd169 P Q 97 L st h = (ldI L 2 fun v => P 98 L (.int v :: st) h) := rfl
theorem e169_98 : exq sa F N S rt cd169 P Q 98 L st h = (tI st fun b s => tI s fun a s => P 99 L (.int (a + b) :: s) h) := rfl
theorem e169_99 : exq sa F N S rt cd169 P Q 99 L st h = (ldI L 3 fun v => P 100 L (.int v :: st) h) := rfl
theorem e169_100 : exq sa F N S rt cd169 P Q 100 L st h = (P 101 L (.int (Int32.ofInt (1)) :: st) h) := rfl
theorem e169_101 : exq sa F N S rt cd169 P Q 101 L st h = (tI st fun b s => tI s fun a s => P 102 L (.int (a + b) :: s) h) := rfl
theorem e169_102 : exq sa F N S rt cd169 P Q 102 L st h = (ldR L 0 fun v => P 103 L (v :: st) h) := rfl
theorem e169_103 : exq sa F N S rt cd169 P Q 103 L st h = (tR st fun a s => opt (hO h a 7) fun fs => opt (fs[16]?) fun v => P 106 L (v :: s) h) := rfl
theorem e169_106 : exq sa F N S rt cd169 P Q 106 L st h = (P 107 L (.int (Int32.ofInt (2)) :: st) h) := rfl
theorem e169_107 : exq sa F N S rt cd169 P Q 107 L st h = (ald sa st h fun v s => P 108 L (.int v :: s) h) := rfl
theorem e169_108 : exq sa F N S rt cd169 P Q 108 L st h = (tI st fun b s => tI s fun a s => ¬ b = 0 ∧ P 109 L (.int (a - a / b * b) :: s) h) := rfl
theorem e169_109 : exq sa F N S rt cd169 P Q 109 L st h = (tI st fun v s => tI s fun i s => tR s fun a s => opt (hI h a) fun q => ix i q.1 fun k => P 110 L s (hS h a (.inl (0, q.1, .inl (upd q.2 k v))))) := rfl
theorem e169_110 : exq sa F N S rt cd169 P Q 110 L st h = (P 133 L st h) := rfl
theorem e169_113 : exq sa F N S rt cd169 P Q 113 L st h = (ldR L 1 fun v => P 114 L (v :: st) h) := rfl
theorem e169_114 : exq sa F N S rt cd169 P Q 114 L st h = (P 116 L (.int (Int32.ofInt (19)) :: st) h) := rfl
theorem e169_116 : exq sa F N S rt cd169 P Q 116 L st h = (ldI L 2 fun v => P 117 L (.int v :: st) h) := rfl
theorem e169_117 : exq sa F N S rt cd169 P Q 117 L st h = (tI st fun b s => tI s fun a s => P 118 L (.int (a + b) :: s) h) := rfl
theorem e169_118 : exq sa F N S rt cd169 P Q 118 L st h = (ldI L 3 fun v => P 119 L (.int v :: st) h) := rfl
theorem e169_119 : exq sa F N S rt cd169 P Q 119 L st h = (tI st fun a s => br (a ≤ 0) (P 128 L s h) (P 122 L s h)) := rfl
theorem e169_122 : exq sa F N S rt cd169 P Q 122 L st h = (ldI L 3 fun v => P 123 L (.int v :: st) h) := rfl
theorem e169_123 : exq sa F N S rt cd169 P Q 123 L st h = (P 124 L (.int (Int32.ofInt (1)) :: st) h) := rfl
theorem e169_124 : exq sa F N S rt cd169 P Q 124 L st h = (tI st fun b s => tI s fun a s => P 125 L (.int (a - b) :: s) h) := rfl
theorem e169_125 : exq sa F N S rt cd169 P Q 125 L st h = (P 129 L st h) := rfl
theorem e169_128 : exq sa F N S rt cd169 P Q 128 L st h = (P 129 L (.int (Int32.ofInt (0)) :: st) h) := rfl
theorem e169_129 : exq sa F N S rt cd169 P Q 129 L st h = (tI st fun v s => tI s fun i s => tR s fun a s => opt (hI h a) fun q => ix i q.1 fun k => P 130 L s (hS h a (.inl (0, q.1, .inl (upd q.2 k v))))) := rfl
theorem e169_130 : exq sa F N S rt cd169 P Q 130 L st h = (P 133 L st h) := rfl
theorem e169_133 : exq sa F N S rt cd169 P Q 133 L st h = (st = [] ∧ rt = none ∧ Q none h) := rfl
theorem e170_0 : exq sa F N S rt cd170 P Q 0 L st h = (ldR L 0 fun v => P 1 L (v :: st) h) := rfl
theorem e170_1 : exq sa F N S rt cd170 P Q 1 L st h = (tR st fun a s => opt (hO h a 7) fun fs => opt (fs[16]?) fun v => P 4 L (v :: s) h) := rfl
theorem e170_4 : exq sa F N S rt cd170 P Q 4 L st h = (P 5 L (.int (Int32.ofInt (4)) :: st) h) := rfl
theorem e170_5 : exq sa F N S rt cd170 P Q 5 L st h = (ldI L 2 fun v => P 6 L (.int v :: st) h) := rfl
theorem e170_6 : exq sa F N S rt cd170 P Q 6 L st h = (tI st fun b s => tI s fun a s => P 7 L (.int (a + b) :: s) h) := rfl
theorem e170_7 : exq sa F N S rt cd170 P Q 7 L st h = (ald sa st h fun v s => P 8 L (.int v :: s) h) := rfl
theorem e170_8 : exq sa F N S rt cd170 P Q 8 L st h = (tI st fun v s => lvS L 3 (.int v) fun L' => P 9 L' s h) := rfl
theorem e170_9 : exq sa F N S rt cd170 P Q 9 L st h = (ldI L 3 fun v => P 10 L (.int v :: st) h) := rfl
theorem e170_10 : exq sa F N S rt cd170 P Q 10 L st h = (P 11 L (.int (Int32.ofInt (2)) :: st) h) := rfl
theorem e170_11 : exq sa F N S rt cd170 P Q 11 L st h = (tI st fun b s => tI s fun a s => br (a = b) (P 14 L s h) (P 19 L s h)) := rfl
theorem e170_14 : exq sa F N S rt cd170 P Q 14 L st h = (P 16 L (.int (Int32.ofInt (9)) :: st) h) := rfl
theorem e170_16 : exq sa F N S rt cd170 P Q 16 L st h = (P 46 L st h) := rfl
theorem e170_19 : exq sa F N S rt cd170 P Q 19 L st h = (ldI L 3 fun v => P 20 L (.int v :: st) h) := rfl
theorem e170_20 : exq sa F N S rt cd170 P Q 20 L st h = (P 21 L (.int (Int32.ofInt (4)) :: st) h) := rfl
theorem e170_21 : exq sa F N S rt cd170 P Q 21 L st h = (tI st fun b s => tI s fun a s => br (a = b) (P 29 L s h) (P 24 L s h)) := rfl
theorem e170_24 : exq sa F N S rt cd170 P Q 24 L st h = (ldI L 3 fun v => P 25 L (.int v :: st) h) := rfl
theorem e170_25 : exq sa F N S rt cd170 P Q 25 L st h = (P 26 L (.int (Int32.ofInt (5)) :: st) h) := rfl
theorem e170_26 : exq sa F N S rt cd170 P Q 26 L st h = (tI st fun b s => tI s fun a s => br (a = b) (P 29 L s h) (P 40 L s h)) := rfl
theorem e170_29 : exq sa F N S rt cd170 P Q 29 L st h = (ldR L 1 fun v => P 30 L (v :: st) h) := rfl
theorem e170_30 : exq sa F N S rt cd170 P Q 30 L st h = (P 32 L (.int (Int32.ofInt (14)) :: st) h) := rfl
theorem e170_32 : exq sa F N S rt cd170 P Q 32 L st h = (ldI L 2 fun v => P 33 L (.int v :: st) h) := rfl
theorem e170_33 : exq sa F N S rt cd170 P Q 33 L st h = (tI st fun b s => tI s fun a s => P 34 L (.int (a + b) :: s) h) := rfl
theorem e170_34 : exq sa F N S rt cd170 P Q 34 L st h = (ald sa st h fun v s => P 35 L (.int v :: s) h) := rfl
theorem e170_35 : exq sa F N S rt cd170 P Q 35 L st h = (P 36 L (.int (Int32.ofInt (1)) :: st) h) := rfl
theorem e170_36 : exq sa F N S rt cd170 P Q 36 L st h = (tI st fun b s => tI s fun a s => P 37 L (.int (a - b) :: s) h) := rfl
theorem e170_37 : exq sa F N S rt cd170 P Q 37 L st h = (P 46 L st h) := rfl
theorem e170_40 : exq sa F N S rt cd170 P Q 40 L st h = (ldR L 1 fun v => P 41 L (v :: st) h) := rfl
theorem e170_41 : exq sa F N S rt cd170 P Q 41 L st h = (P 43 L (.int (Int32.ofInt (14)) :: st) h) := rfl
theorem e170_43 : exq sa F N S rt cd170 P Q 43 L st h = (ldI L 2 fun v => P 44 L (.int v :: st) h) := rfl
theorem e170_44 : exq sa F N S rt cd170 P Q 44 L st h = (tI st fun b s => tI s fun a s => P 45 L (.int (a + b) :: s) h) := rfl
theorem e170_45 : exq sa F N S rt cd170 P Q 45 L st h = (ald sa st h fun v s => P 46 L (.int v :: s) h) := rfl
theorem e170_46 : exq sa F N S rt cd170 P Q 46 L st h = (tI st fun v s => lvS L 4 (.int v) fun L' => P 48 L' s h) := rfl
theorem e170_48 : exq sa F N S rt cd170 P Q 48 L st h = (P 50 L (.int (Int32.ofInt (-1000000)) :: st) h) := rfl
theorem e170_50 : exq sa F N S rt cd170 P Q 50 L st h = (tI st fun v s => lvS L 5 (.int v) fun L' => P 52 L' s h) := rfl
theorem e170_52 : exq sa F N S rt cd170 P Q 52 L st h = (P 53 L (.int (Int32.ofInt (0)) :: st) h) := rfl
theorem e170_53 : exq sa F N S rt cd170 P Q 53 L st h = (tI st fun v s => lvS L 6 (.int v) fun L' => P 55 L' s h) := rfl
theorem e170_55 : exq sa F N S rt cd170 P Q 55 L st h = (ldI L 6 fun v => P 57 L (.int v :: st) h) := rfl
theorem e170_57 : exq sa F N S rt cd170 P Q 57 L st h = (ldR L 0 fun v => P 58 L (v :: st) h) := rfl
theorem e170_58 : exq sa F N S rt cd170 P Q 58 L st h = (tR st fun a s => opt (hO h a 7) fun fs => opt (fs[16]?) fun v => P 61 L (v :: s) h) := rfl
theorem e170_61 : exq sa F N S rt cd170 P Q 61 L st h = (P 62 L (.int (Int32.ofInt (1)) :: st) h) := rfl
theorem e170_62 : exq sa F N S rt cd170 P Q 62 L st h = (ald sa st h fun v s => P 63 L (.int v :: s) h) := rfl
theorem e170_63 : exq sa F N S rt cd170 P Q 63 L st h = (tI st fun b s => tI s fun a s => br (b ≤ a) (P 164 L s h) (P 66 L s h)) := rfl
theorem e170_66 : exq sa F N S rt cd170 P Q 66 L st h = (ldR L 1 fun v => P 67 L (v :: st) h) := rfl
theorem e170_67 : exq sa F N S rt cd170 P Q 67 L st h = (P 68 L (.int (Int32.ofInt (2)) :: st) h) := rfl
theorem e170_68 : exq sa F N S rt cd170 P Q 68 L st h = (ldI L 6 fun v => P 70 L (.int v :: st) h) := rfl
theorem e170_70 : exq sa F N S rt cd170 P Q 70 L st h = (tI st fun b s => tI s fun a s => P 71 L (.int (a + b) :: s) h) := rfl
theorem e170_71 : exq sa F N S rt cd170 P Q 71 L st h = (ald sa st h fun v s => P 72 L (.int v :: s) h) := rfl
theorem e170_72 : exq sa F N S rt cd170 P Q 72 L st h = (ldR L 1 fun v => P 73 L (v :: st) h) := rfl
theorem e170_73 : exq sa F N S rt cd170 P Q 73 L st h = (P 75 L (.int (Int32.ofInt (19)) :: st) h) := rfl
theorem e170_75 : exq sa F N S rt cd170 P Q 75 L st h = (ldI L 2 fun v => P 76 L (.int v :: st) h) := rfl
theorem e170_76 : exq sa F N S rt cd170 P Q 76 L st h = (tI st fun b s => tI s fun a s => P 77 L (.int (a + b) :: s) h) := rfl
theorem e170_77 : exq sa F N S rt cd170 P Q 77 L st h = (ald sa st h fun v s => P 78 L (.int v :: s) h) := rfl
theorem e170_78 : exq sa F N S rt cd170 P Q 78 L st h = (tI st fun b s => tI s fun a s => br (a = b) (P 81 L s h) (P 111 L s h)) := rfl
theorem e170_81 : exq sa F N S rt cd170 P Q 81 L st h = (ldR L 1 fun v => P 82 L (v :: st) h) := rfl
theorem e170_82 : exq sa F N S rt cd170 P Q 82 L st h = (P 83 L (.int (Int32.ofInt (1)) :: st) h) := rfl
theorem e170_83 : exq sa F N S rt cd170 P Q 83 L st h = (ald sa st h fun v s => P 84 L (.int v :: s) h) := rfl
theorem e170_84 : exq sa F N S rt cd170 P Q 84 L st h = (ldI L 6 fun v => P 86 L (.int v :: st) h) := rfl
theorem e170_86 : exq sa F N S rt cd170 P Q 86 L st h = (ivS F 136 2 st h fun r s h' => P 89 L (pu r s) h') := rfl
theorem e170_89 : exq sa F N S rt cd170 P Q 89 L st h = (tI st fun a s => br (a = 0) (P 92 L s h) (P 111 L s h)) := rfl
theorem e170_92 : exq sa F N S rt cd170 P Q 92 L st h = (ldR L 0 fun v => P 93 L (v :: st) h) := rfl
theorem e170_93 : exq sa F N S rt cd170 P Q 93 L st h = (tR st fun a s => opt (hO h a 7) fun fs => opt (fs[16]?) fun v => P 96 L (v :: s) h) := rfl
theorem e170_96 : exq sa F N S rt cd170 P Q 96 L st h = (P 98 L (.int (Int32.ofInt (9)) :: st) h) := rfl
theorem e170_98 : exq sa F N S rt cd170 P Q 98 L st h = (ldI L 6 fun v => P 100 L (.int v :: st) h) := rfl
theorem e170_100 : exq sa F N S rt cd170 P Q 100 L st h = (tI st fun b s => tI s fun a s => P 101 L (.int (a + b) :: s) h) := rfl
theorem e170_101 : exq sa F N S rt cd170 P Q 101 L st h = (ald sa st h fun v s => P 102 L (.int v :: s) h) := rfl
theorem e170_102 : exq sa F N S rt cd170 P Q 102 L st h = (ldI L 4 fun v => P 104 L (.int v :: st) h) := rfl
theorem e170_104 : exq sa F N S rt cd170 P Q 104 L st h = (tI st fun b s => tI s fun a s => br (b < a) (P 111 L s h) (P 107 L s h)) := rfl
theorem e170_107 : exq sa F N S rt cd170 P Q 107 L st h = (P 108 L (.int (Int32.ofInt (1)) :: st) h) := rfl
theorem e170_108 : exq sa F N S rt cd170 P Q 108 L st h = (P 112 L st h) := rfl
theorem e170_111 : exq sa F N S rt cd170 P Q 111 L st h = (P 112 L (.int (Int32.ofInt (0)) :: st) h) := rfl
theorem e170_112 : exq sa F N S rt cd170 P Q 112 L st h = (tI st fun v s => lvS L 7 (.int v) fun L' => P 114 L' s h) := rfl
theorem e170_114 : exq sa F N S rt cd170 P Q 114 L st h = (ldI L 7 fun v => P 116 L (.int v :: st) h) := rfl
theorem e170_116 : exq sa F N S rt cd170 P Q 116 L st h = (tI st fun a s => br (a = 0) (P 154 L s h) (P 119 L s h)) := rfl
theorem e170_119 : exq sa F N S rt cd170 P Q 119 L st h = (ldI L 5 fun v => P 121 L (.int v :: st) h) := rfl
theorem e170_121 : exq sa F N S rt cd170 P Q 121 L st h = (P 123 L (.int (Int32.ofInt (-1000000)) :: st) h) := rfl
theorem e170_123 : exq sa F N S rt cd170 P Q 123 L st h = (tI st fun b s => tI s fun a s => br (a = b) (P 149 L s h) (P 126 L s h)) := rfl
theorem e170_126 : exq sa F N S rt cd170 P Q 126 L st h = (ldR L 0 fun v => P 127 L (v :: st) h) := rfl
theorem e170_127 : exq sa F N S rt cd170 P Q 127 L st h = (tR st fun a s => opt (hO h a 7) fun fs => opt (fs[16]?) fun v => P 130 L (v :: s) h) := rfl
theorem e170_130 : exq sa F N S rt cd170 P Q 130 L st h = (P 132 L (.int (Int32.ofInt (9)) :: st) h) := rfl
theorem e170_132 : exq sa F N S rt cd170 P Q 132 L st h = (ldI L 6 fun v => P 134 L (.int v :: st) h) := rfl
theorem e170_134 : exq sa F N S rt cd170 P Q 134 L st h = (tI st fun b s => tI s fun a s => P 135 L (.int (a + b) :: s) h) := rfl
theorem e170_135 : exq sa F N S rt cd170 P Q 135 L st h = (ald sa st h fun v s => P 136 L (.int v :: s) h) := rfl
theorem e170_136 : exq sa F N S rt cd170 P Q 136 L st h = (ldR L 0 fun v => P 137 L (v :: st) h) := rfl
theorem e170_137 : exq sa F N S rt cd170 P Q 137 L st h = (tR st fun a s => opt (hO h a 7) fun fs => opt (fs[16]?) fun v => P 140 L (v :: s) h) := rfl
theorem e170_140 : exq sa F N S rt cd170 P Q 140 L st h = (P 142 L (.int (Int32.ofInt (9)) :: st) h) := rfl
theorem e170_142 : exq sa F N S rt cd170 P Q 142 L st h = (ldI L 5 fun v => P 144 L (.int v :: st) h) := rfl
theorem e170_144 : exq sa F N S rt cd170 P Q 144 L st h = (tI st fun b s => tI s fun a s => P 145 L (.int (a + b) :: s) h) := rfl
theorem e170_145 : exq sa F N S rt cd170 P Q 145 L st h = (ald sa st h fun v s => P 146 L (.int v :: s) h) := rfl
theorem e170_146 : exq sa F N S rt cd170 P Q 146 L st h = (tI st fun b s => tI s fun a s => br (a ≤ b) (P 154 L s h) (P 149 L s h)) := rfl
theorem e170_149 : exq sa F N S rt cd170 P Q 149 L st h = (ldI L 6 fun v => P 151 L (.int v :: st) h) := rfl
theorem e170_151 : exq sa F N S rt cd170 P Q 151 L st h = (P 156 L st h) := rfl
theorem e170_154 : exq sa F N S rt cd170 P Q 154 L st h = (ldI L 5 fun v => P 156 L (.int v :: st) h) := rfl
theorem e170_156 : exq sa F N S rt cd170 P Q 156 L st h = (tI st fun v s => lvS L 5 (.int v) fun L' => P 158 L' s h) := rfl
theorem e170_158 : exq sa F N S rt cd170 P Q 158 L st h = (ldI L 6 fun v => lvS L 6 (.int (v + Int32.ofInt (1))) fun L' => P 161 L' st h) := rfl
theorem e170_161 : exq sa F N S rt cd170 P Q 161 L st h = (P 55 L st h) := rfl
theorem e170_164 : exq sa F N S rt cd170 P Q 164 L st h = (ldI L 5 fun v => P 166 L (.int v :: st) h) := rfl
theorem e170_166 : exq sa F N S rt cd170 P Q 166 L st h = (tI st fun v s => s = [] ∧ (rt = some .int ∨ (rt = some .boolean ∧ (v = 0 ∨ v = 1))) ∧ Q (some (.int v)) h) := rfl
theorem e171_0 : exq sa F N S rt cd171 P Q 0 L st h = (ldR L 1 fun v => P 1 L (v :: st) h) := rfl
theorem e171_1 : exq sa F N S rt cd171 P Q 1 L st h = (P 3 L (.int (Int32.ofInt (8)) :: st) h) := rfl
theorem e171_3 : exq sa F N S rt cd171 P Q 3 L st h = (ldI L 2 fun v => P 4 L (.int v :: st) h) := rfl
theorem e171_4 : exq sa F N S rt cd171 P Q 4 L st h = (tI st fun b s => tI s fun a s => P 5 L (.int (a + b) :: s) h) := rfl
theorem e171_5 : exq sa F N S rt cd171 P Q 5 L st h = (ald sa st h fun v s => P 6 L (.int v :: s) h) := rfl
theorem e171_6 : exq sa F N S rt cd171 P Q 6 L st h = (tI st fun v s => lvS L 3 (.int v) fun L' => P 7 L' s h) := rfl
theorem e171_7 : exq sa F N S rt cd171 P Q 7 L st h = (ldR L 1 fun v => P 8 L (v :: st) h) := rfl
theorem e171_8 : exq sa F N S rt cd171 P Q 8 L st h = (P 9 L (.int (Int32.ofInt (1)) :: st) h) := rfl
theorem e171_9 : exq sa F N S rt cd171 P Q 9 L st h = (ald sa st h fun v s => P 10 L (.int v :: s) h) := rfl
theorem e171_10 : exq sa F N S rt cd171 P Q 10 L st h = (ldI L 2 fun v => P 11 L (.int v :: st) h) := rfl
theorem e171_11 : exq sa F N S rt cd171 P Q 11 L st h = (ivS F 136 2 st h fun r s h' => P 14 L (pu r s) h') := rfl
theorem e171_14 : exq sa F N S rt cd171 P Q 14 L st h = (tI st fun a s => br (a = 0) (P 17 L s h) (P 21 L s h)) := rfl
theorem e171_17 : exq sa F N S rt cd171 P Q 17 L st h = (ldI L 3 fun v => P 18 L (.int v :: st) h) := rfl
theorem e171_18 : exq sa F N S rt cd171 P Q 18 L st h = (tI st fun a s => br (a = 0) (P 21 L s h) (P 22 L s h)) := rfl
theorem e171_21 : exq sa F N S rt cd171 P Q 21 L st h = (st = [] ∧ rt = none ∧ Q none h) := rfl
theorem e171_22 : exq sa F N S rt cd171 P Q 22 L st h = (ldR L 1 fun v => P 23 L (v :: st) h) := rfl
theorem e171_23 : exq sa F N S rt cd171 P Q 23 L st h = (P 24 L (.int (Int32.ofInt (2)) :: st) h) := rfl
theorem e171_24 : exq sa F N S rt cd171 P Q 24 L st h = (ldI L 2 fun v => P 25 L (.int v :: st) h) := rfl
theorem e171_25 : exq sa F N S rt cd171 P Q 25 L st h = (tI st fun b s => tI s fun a s => P 26 L (.int (a + b) :: s) h) := rfl
theorem e171_26 : exq sa F N S rt cd171 P Q 26 L st h = (ald sa st h fun v s => P 27 L (.int v :: s) h) := rfl
theorem e171_27 : exq sa F N S rt cd171 P Q 27 L st h = (ldI L 3 fun v => P 28 L (.int v :: st) h) := rfl
theorem e171_28 : exq sa F N S rt cd171 P Q 28 L st h = (P 29 L (.int (Int32.ofInt (1)) :: st) h) := rfl
theorem e171_29 : exq sa F N S rt cd171 P Q 29 L st h = (tI st fun b s => tI s fun a s => br (a = b) (P 32 L s h) (P 43 L s h)) := rfl
theorem e171_32 : exq sa F N S rt cd171 P Q 32 L st h = (ldR L 0 fun v => P 33 L (v :: st) h) := rfl
theorem e171_33 : exq sa F N S rt cd171 P Q 33 L st h = (tR st fun a s => opt (hO h a 7) fun fs => opt (fs[16]?) fun v => P 36 L (v :: s) h) := rfl
theorem e171_36 : exq sa F N S rt cd171 P Q 36 L st h = (P 37 L (.int (Int32.ofInt (2)) :: st) h) := rfl
theorem e171_37 : exq sa F N S rt cd171 P Q 37 L st h = (ald sa st h fun v s => P 38 L (.int v :: s) h) := rfl
theorem e171_38 : exq sa F N S rt cd171 P Q 38 L st h = (P 39 L (.int (Int32.ofInt (1)) :: st) h) := rfl
theorem e171_39 : exq sa F N S rt cd171 P Q 39 L st h = (tI st fun b s => tI s fun a s => P 40 L (.int (a - b) :: s) h) := rfl
theorem e171_40 : exq sa F N S rt cd171 P Q 40 L st h = (P 44 L st h) := rfl
theorem e171_43 : exq sa F N S rt cd171 P Q 43 L st h = (P 44 L (.int (Int32.ofInt (0)) :: st) h) := rfl
theorem e171_44 : exq sa F N S rt cd171 P Q 44 L st h = (tI st fun b s => tI s fun a s => br (a = b) (P 47 L s h) (P 51 L s h)) := rfl
theorem e171_47 : exq sa F N S rt cd171 P Q 47 L st h = (P 48 L (.int (Int32.ofInt (1)) :: st) h) := rfl
theorem e171_48 : exq sa F N S rt cd171 P Q 48 L st h = (P 52 L st h) := rfl
theorem e171_51 : exq sa F N S rt cd171 P Q 51 L st h = (P 52 L (.int (Int32.ofInt (0)) :: st) h) := rfl
theorem e171_52 : exq sa F N S rt cd171 P Q 52 L st h = (tI st fun v s => lvS L 4 (.int v) fun L' => P 54 L' s h) := rfl
theorem e171_54 : exq sa F N S rt cd171 P Q 54 L st h = (ldR L 1 fun v => P 55 L (v :: st) h) := rfl
theorem e171_55 : exq sa F N S rt cd171 P Q 55 L st h = (P 57 L (.int (Int32.ofInt (8)) :: st) h) := rfl
theorem e171_57 : exq sa F N S rt cd171 P Q 57 L st h = (ldI L 2 fun v => P 58 L (.int v :: st) h) := rfl
theorem e171_58 : exq sa F N S rt cd171 P Q 58 L st h = (tI st fun b s => tI s fun a s => P 59 L (.int (a + b) :: s) h) := rfl
theorem e171_59 : exq sa F N S rt cd171 P Q 59 L st h = (ldI L 4 fun v => P 61 L (.int v :: st) h) := rfl
theorem e171_61 : exq sa F N S rt cd171 P Q 61 L st h = (tI st fun a s => br (a = 0) (P 70 L s h) (P 64 L s h)) := rfl
theorem e171_64 : exq sa F N S rt cd171 P Q 64 L st h = (P 65 L (.int (Int32.ofInt (3)) :: st) h) := rfl
theorem e171_65 : exq sa F N S rt cd171 P Q 65 L st h = (ldI L 3 fun v => P 66 L (.int v :: st) h) := rfl
theorem e171_66 : exq sa F N S rt cd171 P Q 66 L st h = (tI st fun b s => tI s fun a s => P 67 L (.int (a - b) :: s) h) := rfl
theorem e171_67 : exq sa F N S rt cd171 P Q 67 L st h = (P 71 L st h) := rfl
theorem e171_70 : exq sa F N S rt cd171 P Q 70 L st h = (ldI L 3 fun v => P 71 L (.int v :: st) h) := rfl
theorem e171_71 : exq sa F N S rt cd171 P Q 71 L st h = (tI st fun v s => tI s fun i s => tR s fun a s => opt (hI h a) fun q => ix i q.1 fun k => P 72 L s (hS h a (.inl (0, q.1, .inl (upd q.2 k v))))) := rfl
theorem e171_72 : exq sa F N S rt cd171 P Q 72 L st h = (ldR L 1 fun v => P 73 L (v :: st) h) := rfl
theorem e171_73 : exq sa F N S rt cd171 P Q 73 L st h = (P 74 L (.int (Int32.ofInt (2)) :: st) h) := rfl
theorem e171_74 : exq sa F N S rt cd171 P Q 74 L st h = (ldI L 2 fun v => P 75 L (.int v :: st) h) := rfl
theorem e171_75 : exq sa F N S rt cd171 P Q 75 L st h = (tI st fun b s => tI s fun a s => P 76 L (.int (a + b) :: s) h) := rfl
theorem e171_76 : exq sa F N S rt cd171 P Q 76 L st h = (du2 st fun v v2 s => P 77 L (v :: v2 :: v :: v2 :: s) h) := rfl
theorem e171_77 : exq sa F N S rt cd171 P Q 77 L st h = (ald sa st h fun v s => P 78 L (.int v :: s) h) := rfl
theorem e171_78 : exq sa F N S rt cd171 P Q 78 L st h = (ldR L 1 fun v => P 79 L (v :: st) h) := rfl
theorem e171_79 : exq sa F N S rt cd171 P Q 79 L st h = (P 81 L (.int (Int32.ofInt (8)) :: st) h) := rfl
theorem e171_81 : exq sa F N S rt cd171 P Q 81 L st h = (ldI L 2 fun v => P 82 L (.int v :: st) h) := rfl
theorem e171_82 : exq sa F N S rt cd171 P Q 82 L st h = (tI st fun b s => tI s fun a s => P 83 L (.int (a + b) :: s) h) := rfl
theorem e171_83 : exq sa F N S rt cd171 P Q 83 L st h = (ald sa st h fun v s => P 84 L (.int v :: s) h) := rfl
theorem e171_84 : exq sa F N S rt cd171 P Q 84 L st h = (P 85 L (.int (Int32.ofInt (1)) :: st) h) := rfl
theorem e171_85 : exq sa F N S rt cd171 P Q 85 L st h = (tI st fun b s => tI s fun a s => br (a = b) (P 88 L s h) (P 92 L s h)) := rfl
theorem e171_88 : exq sa F N S rt cd171 P Q 88 L st h = (P 89 L (.int (Int32.ofInt (1)) :: st) h) := rfl
theorem e171_89 : exq sa F N S rt cd171 P Q 89 L st h = (P 93 L st h) := rfl
theorem e171_92 : exq sa F N S rt cd171 P Q 92 L st h = (P 93 L (.int (Int32.ofInt (-1)) :: st) h) := rfl
theorem e171_93 : exq sa F N S rt cd171 P Q 93 L st h = (tI st fun b s => tI s fun a s => P 94 L (.int (a + b) :: s) h) := rfl
theorem e171_94 : exq sa F N S rt cd171 P Q 94 L st h = (tI st fun v s => tI s fun i s => tR s fun a s => opt (hI h a) fun q => ix i q.1 fun k => P 95 L s (hS h a (.inl (0, q.1, .inl (upd q.2 k v))))) := rfl
theorem e171_95 : exq sa F N S rt cd171 P Q 95 L st h = (st = [] ∧ rt = none ∧ Q none h) := rfl
theorem e172_0 : exq sa F N S rt cd172 P Q 0 L st h = (P 2 L (.int (Int32.ofInt (-1000000)) :: st) h) := rfl
theorem e172_2 : exq sa F N S rt cd172 P Q 2 L st h = (tI st fun v s => lvS L 3 (.int v) fun L' => P 3 L' s h) := rfl
theorem e172_3 : exq sa F N S rt cd172 P Q 3 L st h = (ldR L 1 fun v => P 4 L (v :: st) h) := rfl
theorem e172_4 : exq sa F N S rt cd172 P Q 4 L st h = (P 6 L (.int (Int32.ofInt (14)) :: st) h) := rfl
theorem e172_6 : exq sa F N S rt cd172 P Q 6 L st h = (ldI L 2 fun v => P 7 L (.int v :: st) h) := rfl
theorem e172_7 : exq sa F N S rt cd172 P Q 7 L st h = (tI st fun b s => tI s fun a s => P 8 L (.int (a + b) :: s) h) := rfl
theorem e172_8 : exq sa F N S rt cd172 P Q 8 L st h = (ald sa st h fun v s => P 9 L (.int v :: s) h) := rfl
theorem e172_9 : exq sa F N S rt cd172 P Q 9 L st h = (tI st fun a s => br (a ≤ 0) (P 25 L s h) (P 12 L s h)) := rfl
theorem e172_12 : exq sa F N S rt cd172 P Q 12 L st h = (ldR L 0 fun v => P 13 L (v :: st) h) := rfl
theorem e172_13 : exq sa F N S rt cd172 P Q 13 L st h = (ldR L 1 fun v => P 14 L (v :: st) h) := rfl
theorem e172_14 : exq sa F N S rt cd172 P Q 14 L st h = (ldI L 2 fun v => P 15 L (.int v :: st) h) := rfl
theorem e172_15 : exq sa F N S rt cd172 P Q 15 L st h = (ivV F 169 3 7 st h fun r s h' => P 18 L (pu r s) h') := rfl
theorem e172_18 : exq sa F N S rt cd172 P Q 18 L st h = (ldR L 0 fun v => P 19 L (v :: st) h) := rfl
theorem e172_19 : exq sa F N S rt cd172 P Q 19 L st h = (ldR L 1 fun v => P 20 L (v :: st) h) := rfl
theorem e172_20 : exq sa F N S rt cd172 P Q 20 L st h = (ldI L 2 fun v => P 21 L (.int v :: st) h) := rfl
theorem e172_21 : exq sa F N S rt cd172 P Q 21 L st h = (ivV F 170 3 7 st h fun r s h' => P 24 L (pu r s) h') := rfl
theorem e172_24 : exq sa F N S rt cd172 P Q 24 L st h = (tI st fun v s => lvS L 3 (.int v) fun L' => P 25 L' s h) := rfl
theorem e172_25 : exq sa F N S rt cd172 P Q 25 L st h = (ldI L 3 fun v => P 26 L (.int v :: st) h) := rfl
theorem e172_26 : exq sa F N S rt cd172 P Q 26 L st h = (P 28 L (.int (Int32.ofInt (-1000000)) :: st) h) := rfl
theorem e172_28 : exq sa F N S rt cd172 P Q 28 L st h = (tI st fun b s => tI s fun a s => br (a = b) (P 104 L s h) (P 31 L s h)) := rfl
theorem e172_31 : exq sa F N S rt cd172 P Q 31 L st h = (ldR L 0 fun v => P 32 L (v :: st) h) := rfl
theorem e172_32 : exq sa F N S rt cd172 P Q 32 L st h = (tR st fun a s => opt (hO h a 7) fun fs => opt (fs[16]?) fun v => P 35 L (v :: s) h) := rfl
theorem e172_35 : exq sa F N S rt cd172 P Q 35 L st h = (P 37 L (.int (Int32.ofInt (9)) :: st) h) := rfl
theorem e172_37 : exq sa F N S rt cd172 P Q 37 L st h = (ldI L 3 fun v => P 38 L (.int v :: st) h) := rfl
theorem e172_38 : exq sa F N S rt cd172 P Q 38 L st h = (tI st fun b s => tI s fun a s => P 39 L (.int (a + b) :: s) h) := rfl
theorem e172_39 : exq sa F N S rt cd172 P Q 39 L st h = (ald sa st h fun v s => P 40 L (.int v :: s) h) := rfl
theorem e172_40 : exq sa F N S rt cd172 P Q 40 L st h = (tI st fun v s => lvS L 4 (.int v) fun L' => P 42 L' s h) := rfl
theorem e172_42 : exq sa F N S rt cd172 P Q 42 L st h = (ldR L 1 fun v => P 43 L (v :: st) h) := rfl
theorem e172_43 : exq sa F N S rt cd172 P Q 43 L st h = (P 44 L (.int (Int32.ofInt (1)) :: st) h) := rfl
theorem e172_44 : exq sa F N S rt cd172 P Q 44 L st h = (du2 st fun v v2 s => P 45 L (v :: v2 :: v :: v2 :: s) h) := rfl
theorem e172_45 : exq sa F N S rt cd172 P Q 45 L st h = (ald sa st h fun v s => P 46 L (.int v :: s) h) := rfl
theorem e172_46 : exq sa F N S rt cd172 P Q 46 L st h = (P 47 L (.int (Int32.ofInt (1)) :: st) h) := rfl
theorem e172_47 : exq sa F N S rt cd172 P Q 47 L st h = (ldI L 3 fun v => P 48 L (.int v :: st) h) := rfl
theorem e172_48 : exq sa F N S rt cd172 P Q 48 L st h = (tI st fun b s => tI s fun a s => P 49 L (.int (a <<< (b &&& 31)) :: s) h) := rfl
theorem e172_49 : exq sa F N S rt cd172 P Q 49 L st h = (tI st fun b s => tI s fun a s => P 50 L (.int (a ||| b) :: s) h) := rfl
theorem e172_50 : exq sa F N S rt cd172 P Q 50 L st h = (tI st fun v s => tI s fun i s => tR s fun a s => opt (hI h a) fun q => ix i q.1 fun k => P 51 L s (hS h a (.inl (0, q.1, .inl (upd q.2 k v))))) := rfl
theorem e172_51 : exq sa F N S rt cd172 P Q 51 L st h = (ldR L 1 fun v => P 52 L (v :: st) h) := rfl
theorem e172_52 : exq sa F N S rt cd172 P Q 52 L st h = (P 54 L (.int (Int32.ofInt (14)) :: st) h) := rfl
theorem e172_54 : exq sa F N S rt cd172 P Q 54 L st h = (ldI L 2 fun v => P 55 L (.int v :: st) h) := rfl
theorem e172_55 : exq sa F N S rt cd172 P Q 55 L st h = (tI st fun b s => tI s fun a s => P 56 L (.int (a + b) :: s) h) := rfl
theorem e172_56 : exq sa F N S rt cd172 P Q 56 L st h = (ldR L 1 fun v => P 57 L (v :: st) h) := rfl
theorem e172_57 : exq sa F N S rt cd172 P Q 57 L st h = (P 59 L (.int (Int32.ofInt (14)) :: st) h) := rfl
theorem e172_59 : exq sa F N S rt cd172 P Q 59 L st h = (ldI L 2 fun v => P 60 L (.int v :: st) h) := rfl
theorem e172_60 : exq sa F N S rt cd172 P Q 60 L st h = (tI st fun b s => tI s fun a s => P 61 L (.int (a + b) :: s) h) := rfl
theorem e172_61 : exq sa F N S rt cd172 P Q 61 L st h = (ald sa st h fun v s => P 62 L (.int v :: s) h) := rfl
theorem e172_62 : exq sa F N S rt cd172 P Q 62 L st h = (ldI L 4 fun v => P 64 L (.int v :: st) h) := rfl
theorem e172_64 : exq sa F N S rt cd172 P Q 64 L st h = (tI st fun b s => tI s fun a s => br (a ≤ b) (P 79 L s h) (P 67 L s h)) := rfl
theorem e172_67 : exq sa F N S rt cd172 P Q 67 L st h = (ldR L 1 fun v => P 68 L (v :: st) h) := rfl
theorem e172_68 : exq sa F N S rt cd172 P Q 68 L st h = (P 70 L (.int (Int32.ofInt (14)) :: st) h) := rfl
theorem e172_70 : exq sa F N S rt cd172 P Q 70 L st h = (ldI L 2 fun v => P 71 L (.int v :: st) h) := rfl
theorem e172_71 : exq sa F N S rt cd172 P Q 71 L st h = (tI st fun b s => tI s fun a s => P 72 L (.int (a + b) :: s) h) := rfl
theorem e172_72 : exq sa F N S rt cd172 P Q 72 L st h = (ald sa st h fun v s => P 73 L (.int v :: s) h) := rfl
theorem e172_73 : exq sa F N S rt cd172 P Q 73 L st h = (ldI L 4 fun v => P 75 L (.int v :: st) h) := rfl
theorem e172_75 : exq sa F N S rt cd172 P Q 75 L st h = (tI st fun b s => tI s fun a s => P 76 L (.int (a - b) :: s) h) := rfl
theorem e172_76 : exq sa F N S rt cd172 P Q 76 L st h = (P 80 L st h) := rfl
theorem e172_79 : exq sa F N S rt cd172 P Q 79 L st h = (P 80 L (.int (Int32.ofInt (0)) :: st) h) := rfl
theorem e172_80 : exq sa F N S rt cd172 P Q 80 L st h = (tI st fun v s => tI s fun i s => tR s fun a s => opt (hI h a) fun q => ix i q.1 fun k => P 81 L s (hS h a (.inl (0, q.1, .inl (upd q.2 k v))))) := rfl
theorem e172_81 : exq sa F N S rt cd172 P Q 81 L st h = (ldR L 0 fun v => P 82 L (v :: st) h) := rfl
theorem e172_82 : exq sa F N S rt cd172 P Q 82 L st h = (du1 st fun v s => P 83 L (v :: v :: s) h) := rfl
theorem e172_83 : exq sa F N S rt cd172 P Q 83 L st h = (tR st fun a s => opt (hO h a 7) fun fs => opt (fs[19]?) fun v => P 86 L (v :: s) h) := rfl
theorem e172_86 : exq sa F N S rt cd172 P Q 86 L st h = (ldI L 2 fun v => P 87 L (.int v :: st) h) := rfl
theorem e172_87 : exq sa F N S rt cd172 P Q 87 L st h = (P 88 L (.int (Int32.ofInt (2)) :: st) h) := rfl
theorem e172_88 : exq sa F N S rt cd172 P Q 88 L st h = (tI st fun b s => tI s fun a s => ¬ b = 0 ∧ P 89 L (.int (a - a / b * b) :: s) h) := rfl
theorem e172_89 : exq sa F N S rt cd172 P Q 89 L st h = (tI st fun a s => br (a = 0) (P 92 L s h) (P 97 L s h)) := rfl
theorem e172_92 : exq sa F N S rt cd172 P Q 92 L st h = (ldI L 4 fun v => P 94 L (.int v :: st) h) := rfl
theorem e172_94 : exq sa F N S rt cd172 P Q 94 L st h = (P 100 L st h) := rfl
theorem e172_97 : exq sa F N S rt cd172 P Q 97 L st h = (ldI L 4 fun v => P 99 L (.int v :: st) h) := rfl
theorem e172_99 : exq sa F N S rt cd172 P Q 99 L st h = (tI st fun a s => P 100 L (.int (-a) :: s) h) := rfl
theorem e172_100 : exq sa F N S rt cd172 P Q 100 L st h = (tI st fun b s => tI s fun a s => P 101 L (.int (a + b) :: s) h) := rfl
theorem e172_101 : exq sa F N S rt cd172 P Q 101 L st h = (pfd st h 7 19 0 fun s h' => P 104 L s h') := rfl
theorem e172_104 : exq sa F N S rt cd172 P Q 104 L st h = (ldR L 1 fun v => P 105 L (v :: st) h) := rfl
theorem e172_105 : exq sa F N S rt cd172 P Q 105 L st h = (P 107 L (.int (Int32.ofInt (29)) :: st) h) := rfl
theorem e172_107 : exq sa F N S rt cd172 P Q 107 L st h = (ldI L 2 fun v => P 108 L (.int v :: st) h) := rfl
theorem e172_108 : exq sa F N S rt cd172 P Q 108 L st h = (tI st fun b s => tI s fun a s => P 109 L (.int (a + b) :: s) h) := rfl
theorem e172_109 : exq sa F N S rt cd172 P Q 109 L st h = (ldI L 3 fun v => P 110 L (.int v :: st) h) := rfl
theorem e172_110 : exq sa F N S rt cd172 P Q 110 L st h = (P 112 L (.int (Int32.ofInt (-1000000)) :: st) h) := rfl
theorem e172_112 : exq sa F N S rt cd172 P Q 112 L st h = (tI st fun b s => tI s fun a s => br (a = b) (P 119 L s h) (P 115 L s h)) := rfl
theorem e172_115 : exq sa F N S rt cd172 P Q 115 L st h = (P 116 L (.int (Int32.ofInt (0)) :: st) h) := rfl
theorem e172_116 : exq sa F N S rt cd172 P Q 116 L st h = (P 127 L st h) := rfl
theorem e172_119 : exq sa F N S rt cd172 P Q 119 L st h = (ldR L 1 fun v => P 120 L (v :: st) h) := rfl
theorem e172_120 : exq sa F N S rt cd172 P Q 120 L st h = (P 122 L (.int (Int32.ofInt (29)) :: st) h) := rfl
theorem e172_122 : exq sa F N S rt cd172 P Q 122 L st h = (ldI L 2 fun v => P 123 L (.int v :: st) h) := rfl
theorem e172_123 : exq sa F N S rt cd172 P Q 123 L st h = (tI st fun b s => tI s fun a s => P 124 L (.int (a + b) :: s) h) := rfl
theorem e172_124 : exq sa F N S rt cd172 P Q 124 L st h = (ald sa st h fun v s => P 125 L (.int v :: s) h) := rfl
theorem e172_125 : exq sa F N S rt cd172 P Q 125 L st h = (P 126 L (.int (Int32.ofInt (1)) :: st) h) := rfl
theorem e172_126 : exq sa F N S rt cd172 P Q 126 L st h = (tI st fun b s => tI s fun a s => P 127 L (.int (a + b) :: s) h) := rfl
theorem e172_127 : exq sa F N S rt cd172 P Q 127 L st h = (tI st fun v s => tI s fun i s => tR s fun a s => opt (hI h a) fun q => ix i q.1 fun k => P 128 L s (hS h a (.inl (0, q.1, .inl (upd q.2 k v))))) := rfl
theorem e172_128 : exq sa F N S rt cd172 P Q 128 L st h = (ldR L 1 fun v => P 129 L (v :: st) h) := rfl
theorem e172_129 : exq sa F N S rt cd172 P Q 129 L st h = (P 131 L (.int (Int32.ofInt (24)) :: st) h) := rfl
theorem e172_131 : exq sa F N S rt cd172 P Q 131 L st h = (ldI L 2 fun v => P 132 L (.int v :: st) h) := rfl
theorem e172_132 : exq sa F N S rt cd172 P Q 132 L st h = (tI st fun b s => tI s fun a s => P 133 L (.int (a + b) :: s) h) := rfl
theorem e172_133 : exq sa F N S rt cd172 P Q 133 L st h = (ldR L 1 fun v => P 134 L (v :: st) h) := rfl
theorem e172_134 : exq sa F N S rt cd172 P Q 134 L st h = (P 136 L (.int (Int32.ofInt (29)) :: st) h) := rfl
theorem e172_136 : exq sa F N S rt cd172 P Q 136 L st h = (ldI L 2 fun v => P 137 L (.int v :: st) h) := rfl
theorem e172_137 : exq sa F N S rt cd172 P Q 137 L st h = (tI st fun b s => tI s fun a s => P 138 L (.int (a + b) :: s) h) := rfl
theorem e172_138 : exq sa F N S rt cd172 P Q 138 L st h = (ald sa st h fun v s => P 139 L (.int v :: s) h) := rfl
theorem e172_139 : exq sa F N S rt cd172 P Q 139 L st h = (ldR L 0 fun v => P 140 L (v :: st) h) := rfl
theorem e172_140 : exq sa F N S rt cd172 P Q 140 L st h = (tR st fun a s => opt (hO h a 7) fun fs => opt (fs[16]?) fun v => P 143 L (v :: s) h) := rfl
theorem e172_143 : exq sa F N S rt cd172 P Q 143 L st h = (P 144 L (.int (Int32.ofInt (3)) :: st) h) := rfl
theorem e172_144 : exq sa F N S rt cd172 P Q 144 L st h = (ald sa st h fun v s => P 145 L (.int v :: s) h) := rfl
theorem e172_145 : exq sa F N S rt cd172 P Q 145 L st h = (tI st fun b s => tI s fun a s => br (a = b) (P 148 L s h) (P 152 L s h)) := rfl
theorem e172_148 : exq sa F N S rt cd172 P Q 148 L st h = (P 149 L (.int (Int32.ofInt (2)) :: st) h) := rfl
theorem e172_149 : exq sa F N S rt cd172 P Q 149 L st h = (P 153 L st h) := rfl
theorem e172_152 : exq sa F N S rt cd172 P Q 152 L st h = (P 153 L (.int (Int32.ofInt (1)) :: st) h) := rfl
theorem e172_153 : exq sa F N S rt cd172 P Q 153 L st h = (tI st fun v s => tI s fun i s => tR s fun a s => opt (hI h a) fun q => ix i q.1 fun k => P 154 L s (hS h a (.inl (0, q.1, .inl (upd q.2 k v))))) := rfl
theorem e172_154 : exq sa F N S rt cd172 P Q 154 L st h = (ldI L 3 fun v => P 155 L (.int v :: st) h) := rfl
theorem e172_155 : exq sa F N S rt cd172 P Q 155 L st h = (P 157 L (.int (Int32.ofInt (-1000000)) :: st) h) := rfl
theorem e172_157 : exq sa F N S rt cd172 P Q 157 L st h = (tI st fun b s => tI s fun a s => br (a = b) (P 164 L s h) (P 160 L s h)) := rfl
theorem e172_160 : exq sa F N S rt cd172 P Q 160 L st h = (P 161 L (.int (Int32.ofInt (1)) :: st) h) := rfl
theorem e172_161 : exq sa F N S rt cd172 P Q 161 L st h = (P 165 L st h) := rfl
theorem e172_164 : exq sa F N S rt cd172 P Q 164 L st h = (P 165 L (.int (Int32.ofInt (0)) :: st) h) := rfl
theorem e172_165 : exq sa F N S rt cd172 P Q 165 L st h = (tI st fun v s => s = [] ∧ (rt = some .int ∨ (rt = some .boolean ∧ (v = 0 ∨ v = 1))) ∧ Q (some (.int v)) h) := rfl
theorem e173_0 : exq sa F N S rt cd173 P Q 0 L st h = (P 1 L (.int (Int32.ofInt (0)) :: st) h) := rfl
theorem e173_1 : exq sa F N S rt cd173 P Q 1 L st h = (tI st fun v s => lvS L 2 (.int v) fun L' => P 2 L' s h) := rfl
theorem e173_2 : exq sa F N S rt cd173 P Q 2 L st h = (ldI L 2 fun v => P 3 L (.int v :: st) h) := rfl
theorem e173_3 : exq sa F N S rt cd173 P Q 3 L st h = (ldR L 0 fun v => P 4 L (v :: st) h) := rfl
theorem e173_4 : exq sa F N S rt cd173 P Q 4 L st h = (tR st fun a s => opt (hO h a 7) fun fs => opt (fs[16]?) fun v => P 7 L (v :: s) h) := rfl
theorem e173_7 : exq sa F N S rt cd173 P Q 7 L st h = (P 8 L (.int (Int32.ofInt (1)) :: st) h) := rfl
theorem e173_8 : exq sa F N S rt cd173 P Q 8 L st h = (ald sa st h fun v s => P 9 L (.int v :: s) h) := rfl
theorem e173_9 : exq sa F N S rt cd173 P Q 9 L st h = (tI st fun b s => tI s fun a s => br (b ≤ a) (P 24 L s h) (P 12 L s h)) := rfl
theorem e173_12 : exq sa F N S rt cd173 P Q 12 L st h = (ldR L 0 fun v => P 13 L (v :: st) h) := rfl
theorem e173_13 : exq sa F N S rt cd173 P Q 13 L st h = (ldR L 1 fun v => P 14 L (v :: st) h) := rfl
theorem e173_14 : exq sa F N S rt cd173 P Q 14 L st h = (ldI L 2 fun v => P 15 L (.int v :: st) h) := rfl
theorem e173_15 : exq sa F N S rt cd173 P Q 15 L st h = (ivV F 171 3 7 st h fun r s h' => P 18 L (pu r s) h') := rfl
theorem e173_18 : exq sa F N S rt cd173 P Q 18 L st h = (ldI L 2 fun v => lvS L 2 (.int (v + Int32.ofInt (1))) fun L' => P 21 L' st h) := rfl
theorem e173_21 : exq sa F N S rt cd173 P Q 21 L st h = (P 2 L st h) := rfl
theorem e173_24 : exq sa F N S rt cd173 P Q 24 L st h = (P 25 L (.int (Int32.ofInt (0)) :: st) h) := rfl
theorem e173_25 : exq sa F N S rt cd173 P Q 25 L st h = (tI st fun v s => lvS L 2 (.int v) fun L' => P 26 L' s h) := rfl
theorem e173_26 : exq sa F N S rt cd173 P Q 26 L st h = (P 27 L (.int (Int32.ofInt (0)) :: st) h) := rfl
theorem e173_27 : exq sa F N S rt cd173 P Q 27 L st h = (tI st fun v s => lvS L 3 (.int v) fun L' => P 28 L' s h) := rfl
theorem e173_28 : exq sa F N S rt cd173 P Q 28 L st h = (ldI L 3 fun v => P 29 L (.int v :: st) h) := rfl
theorem e173_29 : exq sa F N S rt cd173 P Q 29 L st h = (ldR L 0 fun v => P 30 L (v :: st) h) := rfl
theorem e173_30 : exq sa F N S rt cd173 P Q 30 L st h = (tR st fun a s => opt (hO h a 7) fun fs => opt (fs[16]?) fun v => P 33 L (v :: s) h) := rfl
theorem e173_33 : exq sa F N S rt cd173 P Q 33 L st h = (P 34 L (.int (Int32.ofInt (0)) :: st) h) := rfl
theorem e173_34 : exq sa F N S rt cd173 P Q 34 L st h = (ald sa st h fun v s => P 35 L (.int v :: s) h) := rfl
theorem e173_35 : exq sa F N S rt cd173 P Q 35 L st h = (tI st fun b s => tI s fun a s => br (b ≤ a) (P 73 L s h) (P 38 L s h)) := rfl
theorem e173_38 : exq sa F N S rt cd173 P Q 38 L st h = (ldI L 2 fun v => P 39 L (.int v :: st) h) := rfl
theorem e173_39 : exq sa F N S rt cd173 P Q 39 L st h = (ldR L 1 fun v => P 40 L (v :: st) h) := rfl
theorem e173_40 : exq sa F N S rt cd173 P Q 40 L st h = (P 42 L (.int (Int32.ofInt (24)) :: st) h) := rfl
theorem e173_42 : exq sa F N S rt cd173 P Q 42 L st h = (ldI L 3 fun v => P 43 L (.int v :: st) h) := rfl
theorem e173_43 : exq sa F N S rt cd173 P Q 43 L st h = (tI st fun b s => tI s fun a s => P 44 L (.int (a + b) :: s) h) := rfl
theorem e173_44 : exq sa F N S rt cd173 P Q 44 L st h = (ald sa st h fun v s => P 45 L (.int v :: s) h) := rfl
theorem e173_45 : exq sa F N S rt cd173 P Q 45 L st h = (P 46 L (.int (Int32.ofInt (1)) :: st) h) := rfl
theorem e173_46 : exq sa F N S rt cd173 P Q 46 L st h = (tI st fun b s => tI s fun a s => br (a = b) (P 49 L s h) (P 64 L s h)) := rfl
theorem e173_49 : exq sa F N S rt cd173 P Q 49 L st h = (ldR L 0 fun v => P 50 L (v :: st) h) := rfl
theorem e173_50 : exq sa F N S rt cd173 P Q 50 L st h = (ldR L 1 fun v => P 51 L (v :: st) h) := rfl
theorem e173_51 : exq sa F N S rt cd173 P Q 51 L st h = (ldI L 3 fun v => P 52 L (.int v :: st) h) := rfl
theorem e173_52 : exq sa F N S rt cd173 P Q 52 L st h = (ivV F 172 3 7 st h fun r s h' => P 55 L (pu r s) h') := rfl
theorem e173_55 : exq sa F N S rt cd173 P Q 55 L st h = (tI st fun a s => br (a = 0) (P 64 L s h) (P 58 L s h)) := rfl
theorem e173_58 : exq sa F N S rt cd173 P Q 58 L st h = (P 59 L (.int (Int32.ofInt (1)) :: st) h) := rfl
theorem e173_59 : exq sa F N S rt cd173 P Q 59 L st h = (ldI L 3 fun v => P 60 L (.int v :: st) h) := rfl
theorem e173_60 : exq sa F N S rt cd173 P Q 60 L st h = (tI st fun b s => tI s fun a s => P 61 L (.int (a <<< (b &&& 31)) :: s) h) := rfl
theorem e173_61 : exq sa F N S rt cd173 P Q 61 L st h = (P 65 L st h) := rfl
theorem e173_64 : exq sa F N S rt cd173 P Q 64 L st h = (P 65 L (.int (Int32.ofInt (0)) :: st) h) := rfl
theorem e173_65 : exq sa F N S rt cd173 P Q 65 L st h = (tI st fun b s => tI s fun a s => P 66 L (.int (a ||| b) :: s) h) := rfl
theorem e173_66 : exq sa F N S rt cd173 P Q 66 L st h = (tI st fun v s => lvS L 2 (.int v) fun L' => P 67 L' s h) := rfl
theorem e173_67 : exq sa F N S rt cd173 P Q 67 L st h = (ldI L 3 fun v => lvS L 3 (.int (v + Int32.ofInt (1))) fun L' => P 70 L' st h) := rfl
theorem e173_70 : exq sa F N S rt cd173 P Q 70 L st h = (P 28 L st h) := rfl
theorem e173_73 : exq sa F N S rt cd173 P Q 73 L st h = (P 74 L (.int (Int32.ofInt (0)) :: st) h) := rfl
theorem e173_74 : exq sa F N S rt cd173 P Q 74 L st h = (tI st fun v s => lvS L 3 (.int v) fun L' => P 75 L' s h) := rfl
theorem e173_75 : exq sa F N S rt cd173 P Q 75 L st h = (ldI L 3 fun v => P 76 L (.int v :: st) h) := rfl
theorem e173_76 : exq sa F N S rt cd173 P Q 76 L st h = (ldR L 0 fun v => P 77 L (v :: st) h) := rfl
theorem e173_77 : exq sa F N S rt cd173 P Q 77 L st h = (tR st fun a s => opt (hO h a 7) fun fs => opt (fs[16]?) fun v => P 80 L (v :: s) h) := rfl
theorem e173_80 : exq sa F N S rt cd173 P Q 80 L st h = (P 81 L (.int (Int32.ofInt (0)) :: st) h) := rfl
theorem e173_81 : exq sa F N S rt cd173 P Q 81 L st h = (ald sa st h fun v s => P 82 L (.int v :: s) h) := rfl
theorem e173_82 : exq sa F N S rt cd173 P Q 82 L st h = (tI st fun b s => tI s fun a s => br (b ≤ a) (P 155 L s h) (P 85 L s h)) := rfl
theorem e173_85 : exq sa F N S rt cd173 P Q 85 L st h = (ldR L 1 fun v => P 86 L (v :: st) h) := rfl
theorem e173_86 : exq sa F N S rt cd173 P Q 86 L st h = (P 87 L (.int (Int32.ofInt (0)) :: st) h) := rfl
theorem e173_87 : exq sa F N S rt cd173 P Q 87 L st h = (ald sa st h fun v s => P 88 L (.int v :: s) h) := rfl
theorem e173_88 : exq sa F N S rt cd173 P Q 88 L st h = (P 89 L (.int (Int32.ofInt (3)) :: st) h) := rfl
theorem e173_89 : exq sa F N S rt cd173 P Q 89 L st h = (tI st fun b s => tI s fun a s => ¬ b = 0 ∧ P 90 L (.int (a - a / b * b) :: s) h) := rfl
theorem e173_90 : exq sa F N S rt cd173 P Q 90 L st h = (P 91 L (.int (Int32.ofInt (2)) :: st) h) := rfl
theorem e173_91 : exq sa F N S rt cd173 P Q 91 L st h = (tI st fun b s => tI s fun a s => br (a = b) (P 94 L s h) (P 155 L s h)) := rfl
theorem e173_94 : exq sa F N S rt cd173 P Q 94 L st h = (ldR L 1 fun v => P 95 L (v :: st) h) := rfl
theorem e173_95 : exq sa F N S rt cd173 P Q 95 L st h = (P 97 L (.int (Int32.ofInt (24)) :: st) h) := rfl
theorem e173_97 : exq sa F N S rt cd173 P Q 97 L st h = (ldI L 3 fun v => P 98 L (.int v :: st) h) := rfl
theorem e173_98 : exq sa F N S rt cd173 P Q 98 L st h = (tI st fun b s => tI s fun a s => P 99 L (.int (a + b) :: s) h) := rfl
theorem e173_99 : exq sa F N S rt cd173 P Q 99 L st h = (ald sa st h fun v s => P 100 L (.int v :: s) h) := rfl
theorem e173_100 : exq sa F N S rt cd173 P Q 100 L st h = (P 101 L (.int (Int32.ofInt (2)) :: st) h) := rfl
theorem e173_101 : exq sa F N S rt cd173 P Q 101 L st h = (tI st fun b s => tI s fun a s => br (a = b) (P 127 L s h) (P 104 L s h)) := rfl
theorem e173_104 : exq sa F N S rt cd173 P Q 104 L st h = (ldI L 2 fun v => P 105 L (.int v :: st) h) := rfl
theorem e173_105 : exq sa F N S rt cd173 P Q 105 L st h = (ldI L 3 fun v => P 106 L (.int v :: st) h) := rfl
theorem e173_106 : exq sa F N S rt cd173 P Q 106 L st h = (ivS F 136 2 st h fun r s h' => P 109 L (pu r s) h') := rfl
theorem e173_109 : exq sa F N S rt cd173 P Q 109 L st h = (tI st fun a s => br (a = 0) (P 112 L s h) (P 127 L s h)) := rfl
theorem e173_112 : exq sa F N S rt cd173 P Q 112 L st h = (ldR L 1 fun v => P 113 L (v :: st) h) := rfl
theorem e173_113 : exq sa F N S rt cd173 P Q 113 L st h = (P 115 L (.int (Int32.ofInt (14)) :: st) h) := rfl
theorem e173_115 : exq sa F N S rt cd173 P Q 115 L st h = (ldI L 3 fun v => P 116 L (.int v :: st) h) := rfl
theorem e173_116 : exq sa F N S rt cd173 P Q 116 L st h = (tI st fun b s => tI s fun a s => P 117 L (.int (a + b) :: s) h) := rfl
theorem e173_117 : exq sa F N S rt cd173 P Q 117 L st h = (ald sa st h fun v s => P 118 L (.int v :: s) h) := rfl
theorem e173_118 : exq sa F N S rt cd173 P Q 118 L st h = (P 120 L (.int (Int32.ofInt (9)) :: st) h) := rfl
theorem e173_120 : exq sa F N S rt cd173 P Q 120 L st h = (tI st fun b s => tI s fun a s => br (b ≤ a) (P 127 L s h) (P 123 L s h)) := rfl
theorem e173_123 : exq sa F N S rt cd173 P Q 123 L st h = (P 124 L (.int (Int32.ofInt (1)) :: st) h) := rfl
theorem e173_124 : exq sa F N S rt cd173 P Q 124 L st h = (P 128 L st h) := rfl
theorem e173_127 : exq sa F N S rt cd173 P Q 127 L st h = (P 128 L (.int (Int32.ofInt (0)) :: st) h) := rfl
theorem e173_128 : exq sa F N S rt cd173 P Q 128 L st h = (tI st fun v s => lvS L 4 (.int v) fun L' => P 130 L' s h) := rfl
theorem e173_130 : exq sa F N S rt cd173 P Q 130 L st h = (ldR L 1 fun v => P 131 L (v :: st) h) := rfl
theorem e173_131 : exq sa F N S rt cd173 P Q 131 L st h = (P 133 L (.int (Int32.ofInt (14)) :: st) h) := rfl
theorem e173_133 : exq sa F N S rt cd173 P Q 133 L st h = (ldI L 3 fun v => P 134 L (.int v :: st) h) := rfl
theorem e173_134 : exq sa F N S rt cd173 P Q 134 L st h = (tI st fun b s => tI s fun a s => P 135 L (.int (a + b) :: s) h) := rfl
theorem e173_135 : exq sa F N S rt cd173 P Q 135 L st h = (du2 st fun v v2 s => P 136 L (v :: v2 :: v :: v2 :: s) h) := rfl
theorem e173_136 : exq sa F N S rt cd173 P Q 136 L st h = (ald sa st h fun v s => P 137 L (.int v :: s) h) := rfl
theorem e173_137 : exq sa F N S rt cd173 P Q 137 L st h = (ldI L 4 fun v => P 139 L (.int v :: st) h) := rfl
theorem e173_139 : exq sa F N S rt cd173 P Q 139 L st h = (tI st fun a s => br (a = 0) (P 146 L s h) (P 142 L s h)) := rfl
theorem e173_142 : exq sa F N S rt cd173 P Q 142 L st h = (P 143 L (.int (Int32.ofInt (1)) :: st) h) := rfl
theorem e173_143 : exq sa F N S rt cd173 P Q 143 L st h = (P 147 L st h) := rfl
theorem e173_146 : exq sa F N S rt cd173 P Q 146 L st h = (P 147 L (.int (Int32.ofInt (0)) :: st) h) := rfl
theorem e173_147 : exq sa F N S rt cd173 P Q 147 L st h = (tI st fun b s => tI s fun a s => P 148 L (.int (a + b) :: s) h) := rfl
theorem e173_148 : exq sa F N S rt cd173 P Q 148 L st h = (tI st fun v s => tI s fun i s => tR s fun a s => opt (hI h a) fun q => ix i q.1 fun k => P 149 L s (hS h a (.inl (0, q.1, .inl (upd q.2 k v))))) := rfl
theorem e173_149 : exq sa F N S rt cd173 P Q 149 L st h = (ldI L 3 fun v => lvS L 3 (.int (v + Int32.ofInt (1))) fun L' => P 152 L' st h) := rfl
theorem e173_152 : exq sa F N S rt cd173 P Q 152 L st h = (P 75 L st h) := rfl
theorem e173_155 : exq sa F N S rt cd173 P Q 155 L st h = (ldR L 1 fun v => P 156 L (v :: st) h) := rfl
theorem e173_156 : exq sa F N S rt cd173 P Q 156 L st h = (P 157 L (.int (Int32.ofInt (0)) :: st) h) := rfl
theorem e173_157 : exq sa F N S rt cd173 P Q 157 L st h = (du2 st fun v v2 s => P 158 L (v :: v2 :: v :: v2 :: s) h) := rfl
theorem e173_158 : exq sa F N S rt cd173 P Q 158 L st h = (ald sa st h fun v s => P 159 L (.int v :: s) h) := rfl
theorem e173_159 : exq sa F N S rt cd173 P Q 159 L st h = (P 160 L (.int (Int32.ofInt (1)) :: st) h) := rfl
theorem e173_160 : exq sa F N S rt cd173 P Q 160 L st h = (tI st fun b s => tI s fun a s => P 161 L (.int (a + b) :: s) h) := rfl
theorem e173_161 : exq sa F N S rt cd173 P Q 161 L st h = (tI st fun v s => tI s fun i s => tR s fun a s => opt (hI h a) fun q => ix i q.1 fun k => P 162 L s (hS h a (.inl (0, q.1, .inl (upd q.2 k v))))) := rfl
theorem e173_162 : exq sa F N S rt cd173 P Q 162 L st h = (st = [] ∧ rt = none ∧ Q none h) := rfl
theorem e174_0 : exq sa F N S rt cd174 P Q 0 L st h = (P 1 L (.int (Int32.ofInt (0)) :: st) h) := rfl
theorem e174_1 : exq sa F N S rt cd174 P Q 1 L st h = (tI st fun v s => lvS L 2 (.int v) fun L' => P 2 L' s h) := rfl
theorem e174_2 : exq sa F N S rt cd174 P Q 2 L st h = (P 3 L (.int (Int32.ofInt (0)) :: st) h) := rfl
theorem e174_3 : exq sa F N S rt cd174 P Q 3 L st h = (tI st fun v s => lvS L 3 (.int v) fun L' => P 4 L' s h) := rfl
theorem e174_4 : exq sa F N S rt cd174 P Q 4 L st h = (ldI L 3 fun v => P 5 L (.int v :: st) h) := rfl
theorem e174_5 : exq sa F N S rt cd174 P Q 5 L st h = (ldR L 0 fun v => P 6 L (v :: st) h) := rfl
theorem e174_6 : exq sa F N S rt cd174 P Q 6 L st h = (tR st fun a s => opt (hO h a 7) fun fs => opt (fs[16]?) fun v => P 9 L (v :: s) h) := rfl
theorem e174_9 : exq sa F N S rt cd174 P Q 9 L st h = (P 10 L (.int (Int32.ofInt (1)) :: st) h) := rfl
theorem e174_10 : exq sa F N S rt cd174 P Q 10 L st h = (ald sa st h fun v s => P 11 L (.int v :: s) h) := rfl
theorem e174_11 : exq sa F N S rt cd174 P Q 11 L st h = (tI st fun b s => tI s fun a s => br (b ≤ a) (P 44 L s h) (P 14 L s h)) := rfl
theorem e174_14 : exq sa F N S rt cd174 P Q 14 L st h = (ldI L 2 fun v => P 15 L (.int v :: st) h) := rfl
theorem e174_15 : exq sa F N S rt cd174 P Q 15 L st h = (ldI L 1 fun v => P 16 L (.int v :: st) h) := rfl
theorem e174_16 : exq sa F N S rt cd174 P Q 16 L st h = (ldI L 3 fun v => P 17 L (.int v :: st) h) := rfl
theorem e174_17 : exq sa F N S rt cd174 P Q 17 L st h = (ivS F 136 2 st h fun r s h' => P 20 L (pu r s) h') := rfl
theorem e174_20 : exq sa F N S rt cd174 P Q 20 L st h = (tI st fun a s => br (a = 0) (P 35 L s h) (P 23 L s h)) := rfl
theorem e174_23 : exq sa F N S rt cd174 P Q 23 L st h = (ldR L 0 fun v => P 24 L (v :: st) h) := rfl
theorem e174_24 : exq sa F N S rt cd174 P Q 24 L st h = (tR st fun a s => opt (hO h a 7) fun fs => opt (fs[16]?) fun v => P 27 L (v :: s) h) := rfl
theorem e174_27 : exq sa F N S rt cd174 P Q 27 L st h = (P 29 L (.int (Int32.ofInt (9)) :: st) h) := rfl
theorem e174_29 : exq sa F N S rt cd174 P Q 29 L st h = (ldI L 3 fun v => P 30 L (.int v :: st) h) := rfl
theorem e174_30 : exq sa F N S rt cd174 P Q 30 L st h = (tI st fun b s => tI s fun a s => P 31 L (.int (a + b) :: s) h) := rfl
theorem e174_31 : exq sa F N S rt cd174 P Q 31 L st h = (ald sa st h fun v s => P 32 L (.int v :: s) h) := rfl
theorem e174_32 : exq sa F N S rt cd174 P Q 32 L st h = (P 36 L st h) := rfl
theorem e174_35 : exq sa F N S rt cd174 P Q 35 L st h = (P 36 L (.int (Int32.ofInt (0)) :: st) h) := rfl
theorem e174_36 : exq sa F N S rt cd174 P Q 36 L st h = (tI st fun b s => tI s fun a s => P 37 L (.int (a + b) :: s) h) := rfl
theorem e174_37 : exq sa F N S rt cd174 P Q 37 L st h = (tI st fun v s => lvS L 2 (.int v) fun L' => P 38 L' s h) := rfl
theorem e174_38 : exq sa F N S rt cd174 P Q 38 L st h = (ldI L 3 fun v => lvS L 3 (.int (v + Int32.ofInt (1))) fun L' => P 41 L' st h) := rfl
theorem e174_41 : exq sa F N S rt cd174 P Q 41 L st h = (P 4 L st h) := rfl
theorem e174_44 : exq sa F N S rt cd174 P Q 44 L st h = (ldI L 2 fun v => P 45 L (.int v :: st) h) := rfl
theorem e174_45 : exq sa F N S rt cd174 P Q 45 L st h = (tI st fun v s => s = [] ∧ (rt = some .int ∨ (rt = some .boolean ∧ (v = 0 ∨ v = 1))) ∧ Q (some (.int v)) h) := rfl
theorem e175_0 : exq sa F N S rt cd175 P Q 0 L st h = (P 1 L (.int (Int32.ofInt (0)) :: st) h) := rfl
theorem e175_1 : exq sa F N S rt cd175 P Q 1 L st h = (tI st fun v s => lvS L 3 (.int v) fun L' => P 2 L' s h) := rfl
theorem e175_2 : exq sa F N S rt cd175 P Q 2 L st h = (P 3 L (.int (Int32.ofInt (0)) :: st) h) := rfl
theorem e175_3 : exq sa F N S rt cd175 P Q 3 L st h = (tI st fun v s => lvS L 4 (.int v) fun L' => P 5 L' s h) := rfl
theorem e175_5 : exq sa F N S rt cd175 P Q 5 L st h = (ldI L 4 fun v => P 7 L (.int v :: st) h) := rfl
theorem e175_7 : exq sa F N S rt cd175 P Q 7 L st h = (ldR L 0 fun v => P 8 L (v :: st) h) := rfl
theorem e175_8 : exq sa F N S rt cd175 P Q 8 L st h = (tR st fun a s => opt (hO h a 7) fun fs => opt (fs[16]?) fun v => P 11 L (v :: s) h) := rfl
theorem e175_11 : exq sa F N S rt cd175 P Q 11 L st h = (P 12 L (.int (Int32.ofInt (0)) :: st) h) := rfl
theorem e175_12 : exq sa F N S rt cd175 P Q 12 L st h = (ald sa st h fun v s => P 13 L (.int v :: s) h) := rfl
theorem e175_13 : exq sa F N S rt cd175 P Q 13 L st h = (tI st fun b s => tI s fun a s => br (b ≤ a) (P 44 L s h) (P 16 L s h)) := rfl
theorem e175_16 : exq sa F N S rt cd175 P Q 16 L st h = (ldI L 3 fun v => P 17 L (.int v :: st) h) := rfl
theorem e175_17 : exq sa F N S rt cd175 P Q 17 L st h = (ldR L 1 fun v => P 18 L (v :: st) h) := rfl
theorem e175_18 : exq sa F N S rt cd175 P Q 18 L st h = (P 20 L (.int (Int32.ofInt (24)) :: st) h) := rfl
theorem e175_20 : exq sa F N S rt cd175 P Q 20 L st h = (ldI L 4 fun v => P 22 L (.int v :: st) h) := rfl
theorem e175_22 : exq sa F N S rt cd175 P Q 22 L st h = (tI st fun b s => tI s fun a s => P 23 L (.int (a + b) :: s) h) := rfl
theorem e175_23 : exq sa F N S rt cd175 P Q 23 L st h = (ald sa st h fun v s => P 24 L (.int v :: s) h) := rfl
theorem e175_24 : exq sa F N S rt cd175 P Q 24 L st h = (ldI L 2 fun v => P 25 L (.int v :: st) h) := rfl
theorem e175_25 : exq sa F N S rt cd175 P Q 25 L st h = (tI st fun b s => tI s fun a s => br (a = b) (P 28 L s h) (P 35 L s h)) := rfl
theorem e175_28 : exq sa F N S rt cd175 P Q 28 L st h = (P 29 L (.int (Int32.ofInt (1)) :: st) h) := rfl
theorem e175_29 : exq sa F N S rt cd175 P Q 29 L st h = (ldI L 4 fun v => P 31 L (.int v :: st) h) := rfl
theorem e175_31 : exq sa F N S rt cd175 P Q 31 L st h = (tI st fun b s => tI s fun a s => P 32 L (.int (a <<< (b &&& 31)) :: s) h) := rfl
theorem e175_32 : exq sa F N S rt cd175 P Q 32 L st h = (P 36 L st h) := rfl
theorem e175_35 : exq sa F N S rt cd175 P Q 35 L st h = (P 36 L (.int (Int32.ofInt (0)) :: st) h) := rfl
theorem e175_36 : exq sa F N S rt cd175 P Q 36 L st h = (tI st fun b s => tI s fun a s => P 37 L (.int (a ||| b) :: s) h) := rfl
theorem e175_37 : exq sa F N S rt cd175 P Q 37 L st h = (tI st fun v s => lvS L 3 (.int v) fun L' => P 38 L' s h) := rfl
theorem e175_38 : exq sa F N S rt cd175 P Q 38 L st h = (ldI L 4 fun v => lvS L 4 (.int (v + Int32.ofInt (1))) fun L' => P 41 L' st h) := rfl
theorem e175_41 : exq sa F N S rt cd175 P Q 41 L st h = (P 5 L st h) := rfl
theorem e175_44 : exq sa F N S rt cd175 P Q 44 L st h = (ldI L 3 fun v => P 45 L (.int v :: st) h) := rfl
theorem e175_45 : exq sa F N S rt cd175 P Q 45 L st h = (tI st fun v s => s = [] ∧ (rt = some .int ∨ (rt = some .boolean ∧ (v = 0 ∨ v = 1))) ∧ Q (some (.int v)) h) := rfl
theorem e176_0 : exq sa F N S rt cd176 P Q 0 L st h = (ldR L 1 fun v => P 1 L (v :: st) h) := rfl
theorem e176_1 : exq sa F N S rt cd176 P Q 1 L st h = (P 3 L (.int (Int32.ofInt (24)) :: st) h) := rfl
theorem e176_3 : exq sa F N S rt cd176 P Q 3 L st h = (ldI L 2 fun v => P 4 L (.int v :: st) h) := rfl
theorem e176_4 : exq sa F N S rt cd176 P Q 4 L st h = (tI st fun b s => tI s fun a s => P 5 L (.int (a + b) :: s) h) := rfl
theorem e176_5 : exq sa F N S rt cd176 P Q 5 L st h = (P 6 L (.int (Int32.ofInt (1)) :: st) h) := rfl
theorem e176_6 : exq sa F N S rt cd176 P Q 6 L st h = (tI st fun v s => tI s fun i s => tR s fun a s => opt (hI h a) fun q => ix i q.1 fun k => P 7 L s (hS h a (.inl (0, q.1, .inl (upd q.2 k v))))) := rfl
theorem e176_7 : exq sa F N S rt cd176 P Q 7 L st h = (ldR L 1 fun v => P 8 L (v :: st) h) := rfl
theorem e176_8 : exq sa F N S rt cd176 P Q 8 L st h = (P 10 L (.int (Int32.ofInt (19)) :: st) h) := rfl
theorem e176_10 : exq sa F N S rt cd176 P Q 10 L st h = (ldI L 2 fun v => P 11 L (.int v :: st) h) := rfl
theorem e176_11 : exq sa F N S rt cd176 P Q 11 L st h = (tI st fun b s => tI s fun a s => P 12 L (.int (a + b) :: s) h) := rfl
theorem e176_12 : exq sa F N S rt cd176 P Q 12 L st h = (P 13 L (.int (Int32.ofInt (0)) :: st) h) := rfl
theorem e176_13 : exq sa F N S rt cd176 P Q 13 L st h = (tI st fun v s => tI s fun i s => tR s fun a s => opt (hI h a) fun q => ix i q.1 fun k => P 14 L s (hS h a (.inl (0, q.1, .inl (upd q.2 k v))))) := rfl
theorem e176_14 : exq sa F N S rt cd176 P Q 14 L st h = (ldR L 1 fun v => P 15 L (v :: st) h) := rfl
theorem e176_15 : exq sa F N S rt cd176 P Q 15 L st h = (P 17 L (.int (Int32.ofInt (29)) :: st) h) := rfl
theorem e176_17 : exq sa F N S rt cd176 P Q 17 L st h = (ldI L 2 fun v => P 18 L (.int v :: st) h) := rfl
theorem e176_18 : exq sa F N S rt cd176 P Q 18 L st h = (tI st fun b s => tI s fun a s => P 19 L (.int (a + b) :: s) h) := rfl
theorem e176_19 : exq sa F N S rt cd176 P Q 19 L st h = (P 20 L (.int (Int32.ofInt (0)) :: st) h) := rfl
theorem e176_20 : exq sa F N S rt cd176 P Q 20 L st h = (tI st fun v s => tI s fun i s => tR s fun a s => opt (hI h a) fun q => ix i q.1 fun k => P 21 L s (hS h a (.inl (0, q.1, .inl (upd q.2 k v))))) := rfl
theorem e176_21 : exq sa F N S rt cd176 P Q 21 L st h = (st = [] ∧ rt = none ∧ Q none h) := rfl
theorem e177_0 : exq sa F N S rt cd177 P Q 0 L st h = (ldR L 1 fun v => P 1 L (v :: st) h) := rfl
theorem e177_1 : exq sa F N S rt cd177 P Q 1 L st h = (P 3 L (.int (Int32.ofInt (24)) :: st) h) := rfl
theorem e177_3 : exq sa F N S rt cd177 P Q 3 L st h = (ldI L 2 fun v => P 4 L (.int v :: st) h) := rfl
theorem e177_4 : exq sa F N S rt cd177 P Q 4 L st h = (tI st fun b s => tI s fun a s => P 5 L (.int (a + b) :: s) h) := rfl
theorem e177_5 : exq sa F N S rt cd177 P Q 5 L st h = (P 6 L (.int (Int32.ofInt (0)) :: st) h) := rfl
theorem e177_6 : exq sa F N S rt cd177 P Q 6 L st h = (tI st fun v s => tI s fun i s => tR s fun a s => opt (hI h a) fun q => ix i q.1 fun k => P 7 L s (hS h a (.inl (0, q.1, .inl (upd q.2 k v))))) := rfl
theorem e177_7 : exq sa F N S rt cd177 P Q 7 L st h = (ldR L 1 fun v => P 8 L (v :: st) h) := rfl
theorem e177_8 : exq sa F N S rt cd177 P Q 8 L st h = (P 10 L (.int (Int32.ofInt (19)) :: st) h) := rfl
theorem e177_10 : exq sa F N S rt cd177 P Q 10 L st h = (ldI L 2 fun v => P 11 L (.int v :: st) h) := rfl
theorem e177_11 : exq sa F N S rt cd177 P Q 11 L st h = (tI st fun b s => tI s fun a s => P 12 L (.int (a + b) :: s) h) := rfl
theorem e177_12 : exq sa F N S rt cd177 P Q 12 L st h = (P 13 L (.int (Int32.ofInt (0)) :: st) h) := rfl
theorem e177_13 : exq sa F N S rt cd177 P Q 13 L st h = (tI st fun v s => tI s fun i s => tR s fun a s => opt (hI h a) fun q => ix i q.1 fun k => P 14 L s (hS h a (.inl (0, q.1, .inl (upd q.2 k v))))) := rfl
theorem e177_14 : exq sa F N S rt cd177 P Q 14 L st h = (ldR L 1 fun v => P 15 L (v :: st) h) := rfl
theorem e177_15 : exq sa F N S rt cd177 P Q 15 L st h = (P 17 L (.int (Int32.ofInt (29)) :: st) h) := rfl
theorem e177_17 : exq sa F N S rt cd177 P Q 17 L st h = (ldI L 2 fun v => P 18 L (.int v :: st) h) := rfl
theorem e177_18 : exq sa F N S rt cd177 P Q 18 L st h = (tI st fun b s => tI s fun a s => P 19 L (.int (a + b) :: s) h) := rfl
theorem e177_19 : exq sa F N S rt cd177 P Q 19 L st h = (P 20 L (.int (Int32.ofInt (0)) :: st) h) := rfl
theorem e177_20 : exq sa F N S rt cd177 P Q 20 L st h = (tI st fun v s => tI s fun i s => tR s fun a s => opt (hI h a) fun q => ix i q.1 fun k => P 21 L s (hS h a (.inl (0, q.1, .inl (upd q.2 k v))))) := rfl
theorem e177_21 : exq sa F N S rt cd177 P Q 21 L st h = (st = [] ∧ rt = none ∧ Q none h) := rfl
theorem e178_0 : exq sa F N S rt cd178 P Q 0 L st h = (P 1 L (.int (Int32.ofInt (0)) :: st) h) := rfl
theorem e178_1 : exq sa F N S rt cd178 P Q 1 L st h = (tI st fun v s => lvS L 1 (.int v) fun L' => P 2 L' s h) := rfl
theorem e178_2 : exq sa F N S rt cd178 P Q 2 L st h = (ldI L 1 fun v => P 3 L (.int v :: st) h) := rfl
theorem e178_3 : exq sa F N S rt cd178 P Q 3 L st h = (P 5 L (.int (Int32.ofInt (34)) :: st) h) := rfl
theorem e178_5 : exq sa F N S rt cd178 P Q 5 L st h = (tI st fun b s => tI s fun a s => br (b ≤ a) (P 34 L s h) (P 8 L s h)) := rfl
theorem e178_8 : exq sa F N S rt cd178 P Q 8 L st h = (ldR L 0 fun v => P 9 L (v :: st) h) := rfl
theorem e178_9 : exq sa F N S rt cd178 P Q 9 L st h = (tR st fun a s => opt (hO h a 7) fun fs => opt (fs[22]?) fun v => P 12 L (v :: s) h) := rfl
theorem e178_12 : exq sa F N S rt cd178 P Q 12 L st h = (P 14 L (.int (Int32.ofInt (34)) :: st) h) := rfl
theorem e178_14 : exq sa F N S rt cd178 P Q 14 L st h = (ldR L 0 fun v => P 15 L (v :: st) h) := rfl
theorem e178_15 : exq sa F N S rt cd178 P Q 15 L st h = (tR st fun a s => opt (hO h a 7) fun fs => opt (fs[21]?) fun v => P 18 L (v :: s) h) := rfl
theorem e178_18 : exq sa F N S rt cd178 P Q 18 L st h = (tI st fun b s => tI s fun a s => P 19 L (.int (a * b) :: s) h) := rfl
theorem e178_19 : exq sa F N S rt cd178 P Q 19 L st h = (ldI L 1 fun v => P 20 L (.int v :: st) h) := rfl
theorem e178_20 : exq sa F N S rt cd178 P Q 20 L st h = (tI st fun b s => tI s fun a s => P 21 L (.int (a + b) :: s) h) := rfl
theorem e178_21 : exq sa F N S rt cd178 P Q 21 L st h = (ldR L 0 fun v => P 22 L (v :: st) h) := rfl
theorem e178_22 : exq sa F N S rt cd178 P Q 22 L st h = (tR st fun a s => opt (hO h a 7) fun fs => opt (fs[17]?) fun v => P 25 L (v :: s) h) := rfl
theorem e178_25 : exq sa F N S rt cd178 P Q 25 L st h = (ldI L 1 fun v => P 26 L (.int v :: st) h) := rfl
theorem e178_26 : exq sa F N S rt cd178 P Q 26 L st h = (ald sa st h fun v s => P 27 L (.int v :: s) h) := rfl
theorem e178_27 : exq sa F N S rt cd178 P Q 27 L st h = (tI st fun v s => tI s fun i s => tR s fun a s => opt (hI h a) fun q => ix i q.1 fun k => P 28 L s (hS h a (.inl (0, q.1, .inl (upd q.2 k v))))) := rfl
theorem e178_28 : exq sa F N S rt cd178 P Q 28 L st h = (ldI L 1 fun v => lvS L 1 (.int (v + Int32.ofInt (1))) fun L' => P 31 L' st h) := rfl
theorem e178_31 : exq sa F N S rt cd178 P Q 31 L st h = (P 2 L st h) := rfl
theorem e178_34 : exq sa F N S rt cd178 P Q 34 L st h = (ldR L 0 fun v => P 35 L (v :: st) h) := rfl
theorem e178_35 : exq sa F N S rt cd178 P Q 35 L st h = (ldR L 0 fun v => P 36 L (v :: st) h) := rfl
theorem e178_36 : exq sa F N S rt cd178 P Q 36 L st h = (tR st fun a s => opt (hO h a 7) fun fs => opt (fs[21]?) fun v => P 39 L (v :: s) h) := rfl
theorem e178_39 : exq sa F N S rt cd178 P Q 39 L st h = (P 40 L (.int (Int32.ofInt (1)) :: st) h) := rfl
theorem e178_40 : exq sa F N S rt cd178 P Q 40 L st h = (tI st fun b s => tI s fun a s => P 41 L (.int (a + b) :: s) h) := rfl
theorem e178_41 : exq sa F N S rt cd178 P Q 41 L st h = (P 43 L (.int (Int32.ofInt (24)) :: st) h) := rfl
theorem e178_43 : exq sa F N S rt cd178 P Q 43 L st h = (tI st fun b s => tI s fun a s => ¬ b = 0 ∧ P 44 L (.int (a - a / b * b) :: s) h) := rfl
theorem e178_44 : exq sa F N S rt cd178 P Q 44 L st h = (pfd st h 7 21 0 fun s h' => P 47 L s h') := rfl
theorem e178_47 : exq sa F N S rt cd178 P Q 47 L st h = (ldR L 0 fun v => P 48 L (v :: st) h) := rfl
theorem e178_48 : exq sa F N S rt cd178 P Q 48 L st h = (du1 st fun v s => P 49 L (v :: v :: s) h) := rfl
theorem e178_49 : exq sa F N S rt cd178 P Q 49 L st h = (tR st fun a s => opt (hO h a 7) fun fs => opt (fs[20]?) fun v => P 52 L (v :: s) h) := rfl
theorem e178_52 : exq sa F N S rt cd178 P Q 52 L st h = (ldR L 0 fun v => P 53 L (v :: st) h) := rfl
theorem e178_53 : exq sa F N S rt cd178 P Q 53 L st h = (tR st fun a s => opt (hO h a 7) fun fs => opt (fs[20]?) fun v => P 56 L (v :: s) h) := rfl
theorem e178_56 : exq sa F N S rt cd178 P Q 56 L st h = (P 58 L (.int (Int32.ofInt (24)) :: st) h) := rfl
theorem e178_58 : exq sa F N S rt cd178 P Q 58 L st h = (tI st fun b s => tI s fun a s => br (b ≤ a) (P 65 L s h) (P 61 L s h)) := rfl
theorem e178_61 : exq sa F N S rt cd178 P Q 61 L st h = (P 62 L (.int (Int32.ofInt (1)) :: st) h) := rfl
theorem e178_62 : exq sa F N S rt cd178 P Q 62 L st h = (P 66 L st h) := rfl
theorem e178_65 : exq sa F N S rt cd178 P Q 65 L st h = (P 66 L (.int (Int32.ofInt (0)) :: st) h) := rfl
theorem e178_66 : exq sa F N S rt cd178 P Q 66 L st h = (tI st fun b s => tI s fun a s => P 67 L (.int (a + b) :: s) h) := rfl
theorem e178_67 : exq sa F N S rt cd178 P Q 67 L st h = (pfd st h 7 20 0 fun s h' => P 70 L s h') := rfl
theorem e178_70 : exq sa F N S rt cd178 P Q 70 L st h = (st = [] ∧ rt = none ∧ Q none h) := rfl
theorem e179_0 : exq sa F N S rt cd179 P Q 0 L st h = (ldR L 0 fun v => P 1 L (v :: st) h) := rfl
theorem e179_1 : exq sa F N S rt cd179 P Q 1 L st h = (tR st fun a s => opt (hO h a 7) fun fs => opt (fs[20]?) fun v => P 4 L (v :: s) h) := rfl
theorem e179_4 : exq sa F N S rt cd179 P Q 4 L st h = (tI st fun a s => br (a = 0) (P 7 L s h) (P 10 L s h)) := rfl
theorem e179_7 : exq sa F N S rt cd179 P Q 7 L st h = (P 9 L (.int (Int32.ofInt (-1000002)) :: st) h) := rfl
theorem e179_9 : exq sa F N S rt cd179 P Q 9 L st h = (tI st fun v s => s = [] ∧ (rt = some .int ∨ (rt = some .boolean ∧ (v = 0 ∨ v = 1))) ∧ Q (some (.int v)) h) := rfl
theorem e179_10 : exq sa F N S rt cd179 P Q 10 L st h = (ldR L 0 fun v => P 11 L (v :: st) h) := rfl
theorem e179_11 : exq sa F N S rt cd179 P Q 11 L st h = (ldR L 0 fun v => P 12 L (v :: st) h) := rfl
theorem e179_12 : exq sa F N S rt cd179 P Q 12 L st h = (tR st fun a s => opt (hO h a 7) fun fs => opt (fs[21]?) fun v => P 15 L (v :: s) h) := rfl
theorem e179_15 : exq sa F N S rt cd179 P Q 15 L st h = (P 17 L (.int (Int32.ofInt (24)) :: st) h) := rfl
theorem e179_17 : exq sa F N S rt cd179 P Q 17 L st h = (tI st fun b s => tI s fun a s => P 18 L (.int (a + b) :: s) h) := rfl
theorem e179_18 : exq sa F N S rt cd179 P Q 18 L st h = (P 19 L (.int (Int32.ofInt (1)) :: st) h) := rfl
theorem e179_19 : exq sa F N S rt cd179 P Q 19 L st h = (tI st fun b s => tI s fun a s => P 20 L (.int (a - b) :: s) h) := rfl
theorem e179_20 : exq sa F N S rt cd179 P Q 20 L st h = (P 22 L (.int (Int32.ofInt (24)) :: st) h) := rfl
theorem e179_22 : exq sa F N S rt cd179 P Q 22 L st h = (tI st fun b s => tI s fun a s => ¬ b = 0 ∧ P 23 L (.int (a - a / b * b) :: s) h) := rfl
theorem e179_23 : exq sa F N S rt cd179 P Q 23 L st h = (pfd st h 7 21 0 fun s h' => P 26 L s h') := rfl
theorem e179_26 : exq sa F N S rt cd179 P Q 26 L st h = (ldR L 0 fun v => P 27 L (v :: st) h) := rfl
theorem e179_27 : exq sa F N S rt cd179 P Q 27 L st h = (du1 st fun v s => P 28 L (v :: v :: s) h) := rfl
theorem e179_28 : exq sa F N S rt cd179 P Q 28 L st h = (tR st fun a s => opt (hO h a 7) fun fs => opt (fs[20]?) fun v => P 31 L (v :: s) h) := rfl
theorem e179_31 : exq sa F N S rt cd179 P Q 31 L st h = (P 32 L (.int (Int32.ofInt (1)) :: st) h) := rfl
theorem e179_32 : exq sa F N S rt cd179 P Q 32 L st h = (tI st fun b s => tI s fun a s => P 33 L (.int (a - b) :: s) h) := rfl
theorem e179_33 : exq sa F N S rt cd179 P Q 33 L st h = (pfd st h 7 20 0 fun s h' => P 36 L s h') := rfl
theorem e179_36 : exq sa F N S rt cd179 P Q 36 L st h = (P 37 L (.int (Int32.ofInt (0)) :: st) h) := rfl
theorem e179_37 : exq sa F N S rt cd179 P Q 37 L st h = (tI st fun v s => lvS L 1 (.int v) fun L' => P 38 L' s h) := rfl
theorem e179_38 : exq sa F N S rt cd179 P Q 38 L st h = (ldI L 1 fun v => P 39 L (.int v :: st) h) := rfl
theorem e179_39 : exq sa F N S rt cd179 P Q 39 L st h = (P 41 L (.int (Int32.ofInt (34)) :: st) h) := rfl
theorem e179_41 : exq sa F N S rt cd179 P Q 41 L st h = (tI st fun b s => tI s fun a s => br (b ≤ a) (P 70 L s h) (P 44 L s h)) := rfl
theorem e179_44 : exq sa F N S rt cd179 P Q 44 L st h = (ldR L 0 fun v => P 45 L (v :: st) h) := rfl
theorem e179_45 : exq sa F N S rt cd179 P Q 45 L st h = (tR st fun a s => opt (hO h a 7) fun fs => opt (fs[17]?) fun v => P 48 L (v :: s) h) := rfl
theorem e179_48 : exq sa F N S rt cd179 P Q 48 L st h = (ldI L 1 fun v => P 49 L (.int v :: st) h) := rfl
theorem e179_49 : exq sa F N S rt cd179 P Q 49 L st h = (ldR L 0 fun v => P 50 L (v :: st) h) := rfl
theorem e179_50 : exq sa F N S rt cd179 P Q 50 L st h = (tR st fun a s => opt (hO h a 7) fun fs => opt (fs[22]?) fun v => P 53 L (v :: s) h) := rfl
theorem e179_53 : exq sa F N S rt cd179 P Q 53 L st h = (P 55 L (.int (Int32.ofInt (34)) :: st) h) := rfl
theorem e179_55 : exq sa F N S rt cd179 P Q 55 L st h = (ldR L 0 fun v => P 56 L (v :: st) h) := rfl
theorem e179_56 : exq sa F N S rt cd179 P Q 56 L st h = (tR st fun a s => opt (hO h a 7) fun fs => opt (fs[21]?) fun v => P 59 L (v :: s) h) := rfl
theorem e179_59 : exq sa F N S rt cd179 P Q 59 L st h = (tI st fun b s => tI s fun a s => P 60 L (.int (a * b) :: s) h) := rfl
theorem e179_60 : exq sa F N S rt cd179 P Q 60 L st h = (ldI L 1 fun v => P 61 L (.int v :: st) h) := rfl
theorem e179_61 : exq sa F N S rt cd179 P Q 61 L st h = (tI st fun b s => tI s fun a s => P 62 L (.int (a + b) :: s) h) := rfl
theorem e179_62 : exq sa F N S rt cd179 P Q 62 L st h = (ald sa st h fun v s => P 63 L (.int v :: s) h) := rfl
theorem e179_63 : exq sa F N S rt cd179 P Q 63 L st h = (tI st fun v s => tI s fun i s => tR s fun a s => opt (hI h a) fun q => ix i q.1 fun k => P 64 L s (hS h a (.inl (0, q.1, .inl (upd q.2 k v))))) := rfl
theorem e179_64 : exq sa F N S rt cd179 P Q 64 L st h = (ldI L 1 fun v => lvS L 1 (.int (v + Int32.ofInt (1))) fun L' => P 67 L' st h) := rfl
theorem e179_67 : exq sa F N S rt cd179 P Q 67 L st h = (P 38 L st h) := rfl
theorem e179_70 : exq sa F N S rt cd179 P Q 70 L st h = (ldR L 0 fun v => P 71 L (v :: st) h) := rfl
theorem e179_71 : exq sa F N S rt cd179 P Q 71 L st h = (tR st fun a s => opt (hO h a 7) fun fs => opt (fs[20]?) fun v => P 74 L (v :: s) h) := rfl
theorem e179_74 : exq sa F N S rt cd179 P Q 74 L st h = (tI st fun v s => s = [] ∧ (rt = some .int ∨ (rt = some .boolean ∧ (v = 0 ∨ v = 1))) ∧ Q (some (.int v)) h) := rfl
theorem e180_0 : exq sa F N S rt cd180 P Q 0 L st h = (ldR L 0 fun v => P 1 L (v :: st) h) := rfl
theorem e180_1 : exq sa F N S rt cd180 P Q 1 L st h = (tR st fun a s => opt (hO h a 7) fun fs => opt (fs[15]?) fun v => P 4 L (v :: s) h) := rfl
theorem e180_4 : exq sa F N S rt cd180 P Q 4 L st h = (tI st fun a s => br (a = 0) (P 7 L s h) (P 12 L s h)) := rfl
theorem e180_7 : exq sa F N S rt cd180 P Q 7 L st h = (P 9 L (.int (Int32.ofInt (-1000002)) :: st) h) := rfl
theorem e180_9 : exq sa F N S rt cd180 P Q 9 L st h = (P 22 L st h) := rfl
theorem e180_12 : exq sa F N S rt cd180 P Q 12 L st h = (ldI L 1 fun v => P 13 L (.int v :: st) h) := rfl
theorem e180_13 : exq sa F N S rt cd180 P Q 13 L st h = (tI st fun a s => br (a = 0) (P 20 L s h) (P 16 L s h)) := rfl
theorem e180_16 : exq sa F N S rt cd180 P Q 16 L st h = (P 17 L (.int (Int32.ofInt (0)) :: st) h) := rfl
theorem e180_17 : exq sa F N S rt cd180 P Q 17 L st h = (P 22 L st h) := rfl
theorem e180_20 : exq sa F N S rt cd180 P Q 20 L st h = (P 22 L (.int (Int32.ofInt (-1000001)) :: st) h) := rfl
theorem e180_22 : exq sa F N S rt cd180 P Q 22 L st h = (tI st fun v s => s = [] ∧ (rt = some .int ∨ (rt = some .boolean ∧ (v = 0 ∨ v = 1))) ∧ Q (some (.int v)) h) := rfl
theorem e181_0 : exq sa F N S rt cd181 P Q 0 L st h = (ldR L 0 fun v => P 1 L (v :: st) h) := rfl
theorem e181_1 : exq sa F N S rt cd181 P Q 1 L st h = (ldI L 1 fun v => P 2 L (.int v :: st) h) := rfl
theorem e181_2 : exq sa F N S rt cd181 P Q 2 L st h = (P 3 L (.int (Int32.ofInt (1)) :: st) h) := rfl
theorem e181_3 : exq sa F N S rt cd181 P Q 3 L st h = (P 5 L (.int (Int32.ofInt (24)) :: st) h) := rfl
theorem e181_5 : exq sa F N S rt cd181 P Q 5 L st h = (ivS F 135 3 st h fun r s h' => P 8 L (pu r s) h') := rfl
theorem e181_8 : exq sa F N S rt cd181 P Q 8 L st h = (ivV F 180 2 7 st h fun r s h' => P 11 L (pu r s) h') := rfl
theorem e181_11 : exq sa F N S rt cd181 P Q 11 L st h = (tI st fun v s => lvS L 2 (.int v) fun L' => P 12 L' s h) := rfl
theorem e181_12 : exq sa F N S rt cd181 P Q 12 L st h = (ldI L 2 fun v => P 13 L (.int v :: st) h) := rfl
theorem e181_13 : exq sa F N S rt cd181 P Q 13 L st h = (tI st fun a s => br (0 ≤ a) (P 18 L s h) (P 16 L s h)) := rfl
theorem e181_16 : exq sa F N S rt cd181 P Q 16 L st h = (ldI L 2 fun v => P 17 L (.int v :: st) h) := rfl
theorem e181_17 : exq sa F N S rt cd181 P Q 17 L st h = (tI st fun v s => s = [] ∧ (rt = some .int ∨ (rt = some .boolean ∧ (v = 0 ∨ v = 1))) ∧ Q (some (.int v)) h) := rfl
theorem e181_18 : exq sa F N S rt cd181 P Q 18 L st h = (ldR L 0 fun v => P 19 L (v :: st) h) := rfl
theorem e181_19 : exq sa F N S rt cd181 P Q 19 L st h = (tR st fun a s => opt (hO h a 7) fun fs => opt (fs[17]?) fun v => P 22 L (v :: s) h) := rfl
theorem e181_22 : exq sa F N S rt cd181 P Q 22 L st h = (P 23 L (.int (Int32.ofInt (0)) :: st) h) := rfl
theorem e181_23 : exq sa F N S rt cd181 P Q 23 L st h = (ald sa st h fun v s => P 24 L (.int v :: s) h) := rfl
theorem e181_24 : exq sa F N S rt cd181 P Q 24 L st h = (ldI L 1 fun v => P 25 L (.int v :: st) h) := rfl
theorem e181_25 : exq sa F N S rt cd181 P Q 25 L st h = (tI st fun b s => tI s fun a s => P 26 L (.int (a + b) :: s) h) := rfl
theorem e181_26 : exq sa F N S rt cd181 P Q 26 L st h = (P 29 L (.int (Int32.ofInt (999)) :: st) h) := rfl
theorem e181_29 : exq sa F N S rt cd181 P Q 29 L st h = (tI st fun b s => tI s fun a s => br (a ≤ b) (P 35 L s h) (P 32 L s h)) := rfl
theorem e181_32 : exq sa F N S rt cd181 P Q 32 L st h = (P 34 L (.int (Int32.ofInt (-1000003)) :: st) h) := rfl
theorem e181_34 : exq sa F N S rt cd181 P Q 34 L st h = (tI st fun v s => s = [] ∧ (rt = some .int ∨ (rt = some .boolean ∧ (v = 0 ∨ v = 1))) ∧ Q (some (.int v)) h) := rfl
theorem e181_35 : exq sa F N S rt cd181 P Q 35 L st h = (P 36 L (.int (Int32.ofInt (0)) :: st) h) := rfl
theorem e181_36 : exq sa F N S rt cd181 P Q 36 L st h = (tI st fun v s => lvS L 3 (.int v) fun L' => P 37 L' s h) := rfl
theorem e181_37 : exq sa F N S rt cd181 P Q 37 L st h = (ldI L 3 fun v => P 38 L (.int v :: st) h) := rfl
theorem e181_38 : exq sa F N S rt cd181 P Q 38 L st h = (ldI L 1 fun v => P 39 L (.int v :: st) h) := rfl
theorem e181_39 : exq sa F N S rt cd181 P Q 39 L st h = (tI st fun b s => tI s fun a s => br (b ≤ a) (P 60 L s h) (P 42 L s h)) := rfl
theorem e181_42 : exq sa F N S rt cd181 P Q 42 L st h = (ldR L 0 fun v => P 43 L (v :: st) h) := rfl
theorem e181_43 : exq sa F N S rt cd181 P Q 43 L st h = (ivV F 178 1 7 st h fun r s h' => P 46 L (pu r s) h') := rfl
theorem e181_46 : exq sa F N S rt cd181 P Q 46 L st h = (ldR L 0 fun v => P 47 L (v :: st) h) := rfl
theorem e181_47 : exq sa F N S rt cd181 P Q 47 L st h = (ldR L 0 fun v => P 48 L (v :: st) h) := rfl
theorem e181_48 : exq sa F N S rt cd181 P Q 48 L st h = (tR st fun a s => opt (hO h a 7) fun fs => opt (fs[17]?) fun v => P 51 L (v :: s) h) := rfl
theorem e181_51 : exq sa F N S rt cd181 P Q 51 L st h = (ivV F 173 2 7 st h fun r s h' => P 54 L (pu r s) h') := rfl
theorem e181_54 : exq sa F N S rt cd181 P Q 54 L st h = (ldI L 3 fun v => lvS L 3 (.int (v + Int32.ofInt (1))) fun L' => P 57 L' st h) := rfl
theorem e181_57 : exq sa F N S rt cd181 P Q 57 L st h = (P 37 L st h) := rfl
theorem e181_60 : exq sa F N S rt cd181 P Q 60 L st h = (ldR L 0 fun v => P 61 L (v :: st) h) := rfl
theorem e181_61 : exq sa F N S rt cd181 P Q 61 L st h = (ldR L 0 fun v => P 62 L (v :: st) h) := rfl
theorem e181_62 : exq sa F N S rt cd181 P Q 62 L st h = (tR st fun a s => opt (hO h a 7) fun fs => opt (fs[17]?) fun v => P 65 L (v :: s) h) := rfl
theorem e181_65 : exq sa F N S rt cd181 P Q 65 L st h = (P 66 L (.int (Int32.ofInt (1)) :: st) h) := rfl
theorem e181_66 : exq sa F N S rt cd181 P Q 66 L st h = (ald sa st h fun v s => P 67 L (.int v :: s) h) := rfl
theorem e181_67 : exq sa F N S rt cd181 P Q 67 L st h = (ivV F 174 2 7 st h fun r s h' => P 70 L (pu r s) h') := rfl
theorem e181_70 : exq sa F N S rt cd181 P Q 70 L st h = (tI st fun v s => s = [] ∧ (rt = some .int ∨ (rt = some .boolean ∧ (v = 0 ∨ v = 1))) ∧ Q (some (.int v)) h) := rfl
theorem e182_0 : exq sa F N S rt cd182 P Q 0 L st h = (ldR L 0 fun v => P 1 L (v :: st) h) := rfl
theorem e182_1 : exq sa F N S rt cd182 P Q 1 L st h = (ldI L 1 fun v => P 2 L (.int v :: st) h) := rfl
theorem e182_2 : exq sa F N S rt cd182 P Q 2 L st h = (ivV F 162 2 7 st h fun r s h' => P 5 L (pu r s) h') := rfl
theorem e182_5 : exq sa F N S rt cd182 P Q 5 L st h = (tI st fun a s => br (a = 0) (P 8 L s h) (P 11 L s h)) := rfl
theorem e182_8 : exq sa F N S rt cd182 P Q 8 L st h = (P 10 L (.int (Int32.ofInt (-1000001)) :: st) h) := rfl
theorem e182_10 : exq sa F N S rt cd182 P Q 10 L st h = (tI st fun v s => s = [] ∧ (rt = some .int ∨ (rt = some .boolean ∧ (v = 0 ∨ v = 1))) ∧ Q (some (.int v)) h) := rfl
theorem e182_11 : exq sa F N S rt cd182 P Q 11 L st h = (ldR L 0 fun v => P 12 L (v :: st) h) := rfl
theorem e182_12 : exq sa F N S rt cd182 P Q 12 L st h = (tR st fun a s => opt (hO h a 7) fun fs => opt (fs[17]?) fun v => P 15 L (v :: s) h) := rfl
theorem e182_15 : exq sa F N S rt cd182 P Q 15 L st h = (P 17 L (.int (Int32.ofInt (24)) :: st) h) := rfl
theorem e182_17 : exq sa F N S rt cd182 P Q 17 L st h = (ldI L 1 fun v => P 18 L (.int v :: st) h) := rfl
theorem e182_18 : exq sa F N S rt cd182 P Q 18 L st h = (tI st fun b s => tI s fun a s => P 19 L (.int (a + b) :: s) h) := rfl
theorem e182_19 : exq sa F N S rt cd182 P Q 19 L st h = (ald sa st h fun v s => P 20 L (.int v :: s) h) := rfl
theorem e182_20 : exq sa F N S rt cd182 P Q 20 L st h = (tI st fun a s => br (a = 0) (P 26 L s h) (P 23 L s h)) := rfl
theorem e182_23 : exq sa F N S rt cd182 P Q 23 L st h = (P 25 L (.int (Int32.ofInt (-1000002)) :: st) h) := rfl
theorem e182_25 : exq sa F N S rt cd182 P Q 25 L st h = (tI st fun v s => s = [] ∧ (rt = some .int ∨ (rt = some .boolean ∧ (v = 0 ∨ v = 1))) ∧ Q (some (.int v)) h) := rfl
theorem e182_26 : exq sa F N S rt cd182 P Q 26 L st h = (ldR L 0 fun v => P 27 L (v :: st) h) := rfl
theorem e182_27 : exq sa F N S rt cd182 P Q 27 L st h = (ivV F 178 1 7 st h fun r s h' => P 30 L (pu r s) h') := rfl
theorem e182_30 : exq sa F N S rt cd182 P Q 30 L st h = (ldR L 0 fun v => P 31 L (v :: st) h) := rfl
theorem e182_31 : exq sa F N S rt cd182 P Q 31 L st h = (ldR L 0 fun v => P 32 L (v :: st) h) := rfl
theorem e182_32 : exq sa F N S rt cd182 P Q 32 L st h = (tR st fun a s => opt (hO h a 7) fun fs => opt (fs[17]?) fun v => P 35 L (v :: s) h) := rfl
theorem e182_35 : exq sa F N S rt cd182 P Q 35 L st h = (ldI L 1 fun v => P 36 L (.int v :: st) h) := rfl
theorem e182_36 : exq sa F N S rt cd182 P Q 36 L st h = (ivV F 176 3 7 st h fun r s h' => P 39 L (pu r s) h') := rfl
theorem e182_39 : exq sa F N S rt cd182 P Q 39 L st h = (ldR L 0 fun v => P 40 L (v :: st) h) := rfl
theorem e182_40 : exq sa F N S rt cd182 P Q 40 L st h = (ldR L 0 fun v => P 41 L (v :: st) h) := rfl
theorem e182_41 : exq sa F N S rt cd182 P Q 41 L st h = (tR st fun a s => opt (hO h a 7) fun fs => opt (fs[17]?) fun v => P 44 L (v :: s) h) := rfl
theorem e182_44 : exq sa F N S rt cd182 P Q 44 L st h = (P 45 L (.int (Int32.ofInt (1)) :: st) h) := rfl
theorem e182_45 : exq sa F N S rt cd182 P Q 45 L st h = (ivV F 175 3 7 st h fun r s h' => P 48 L (pu r s) h') := rfl
theorem e182_48 : exq sa F N S rt cd182 P Q 48 L st h = (tI st fun v s => s = [] ∧ (rt = some .int ∨ (rt = some .boolean ∧ (v = 0 ∨ v = 1))) ∧ Q (some (.int v)) h) := rfl
theorem e183_0 : exq sa F N S rt cd183 P Q 0 L st h = (ldR L 0 fun v => P 1 L (v :: st) h) := rfl
theorem e183_1 : exq sa F N S rt cd183 P Q 1 L st h = (ldI L 1 fun v => P 2 L (.int v :: st) h) := rfl
theorem e183_2 : exq sa F N S rt cd183 P Q 2 L st h = (ivV F 162 2 7 st h fun r s h' => P 5 L (pu r s) h') := rfl
theorem e183_5 : exq sa F N S rt cd183 P Q 5 L st h = (tI st fun a s => br (a = 0) (P 8 L s h) (P 11 L s h)) := rfl
theorem e183_8 : exq sa F N S rt cd183 P Q 8 L st h = (P 10 L (.int (Int32.ofInt (-1000001)) :: st) h) := rfl
theorem e183_10 : exq sa F N S rt cd183 P Q 10 L st h = (tI st fun v s => s = [] ∧ (rt = some .int ∨ (rt = some .boolean ∧ (v = 0 ∨ v = 1))) ∧ Q (some (.int v)) h) := rfl
theorem e183_11 : exq sa F N S rt cd183 P Q 11 L st h = (ldR L 0 fun v => P 12 L (v :: st) h) := rfl
theorem e183_12 : exq sa F N S rt cd183 P Q 12 L st h = (tR st fun a s => opt (hO h a 7) fun fs => opt (fs[17]?) fun v => P 15 L (v :: s) h) := rfl
theorem e183_15 : exq sa F N S rt cd183 P Q 15 L st h = (P 17 L (.int (Int32.ofInt (24)) :: st) h) := rfl
theorem e183_17 : exq sa F N S rt cd183 P Q 17 L st h = (ldI L 1 fun v => P 18 L (.int v :: st) h) := rfl
theorem e183_18 : exq sa F N S rt cd183 P Q 18 L st h = (tI st fun b s => tI s fun a s => P 19 L (.int (a + b) :: s) h) := rfl
theorem e183_19 : exq sa F N S rt cd183 P Q 19 L st h = (ald sa st h fun v s => P 20 L (.int v :: s) h) := rfl
theorem e183_20 : exq sa F N S rt cd183 P Q 20 L st h = (P 21 L (.int (Int32.ofInt (1)) :: st) h) := rfl
theorem e183_21 : exq sa F N S rt cd183 P Q 21 L st h = (tI st fun b s => tI s fun a s => br (a = b) (P 27 L s h) (P 24 L s h)) := rfl
theorem e183_24 : exq sa F N S rt cd183 P Q 24 L st h = (P 26 L (.int (Int32.ofInt (-1000002)) :: st) h) := rfl
theorem e183_26 : exq sa F N S rt cd183 P Q 26 L st h = (tI st fun v s => s = [] ∧ (rt = some .int ∨ (rt = some .boolean ∧ (v = 0 ∨ v = 1))) ∧ Q (some (.int v)) h) := rfl
theorem e183_27 : exq sa F N S rt cd183 P Q 27 L st h = (ldR L 0 fun v => P 28 L (v :: st) h) := rfl
theorem e183_28 : exq sa F N S rt cd183 P Q 28 L st h = (ivV F 178 1 7 st h fun r s h' => P 31 L (pu r s) h') := rfl
theorem e183_31 : exq sa F N S rt cd183 P Q 31 L st h = (ldR L 0 fun v => P 32 L (v :: st) h) := rfl
theorem e183_32 : exq sa F N S rt cd183 P Q 32 L st h = (ldR L 0 fun v => P 33 L (v :: st) h) := rfl
theorem e183_33 : exq sa F N S rt cd183 P Q 33 L st h = (tR st fun a s => opt (hO h a 7) fun fs => opt (fs[17]?) fun v => P 36 L (v :: s) h) := rfl
theorem e183_36 : exq sa F N S rt cd183 P Q 36 L st h = (ldI L 1 fun v => P 37 L (.int v :: st) h) := rfl
theorem e183_37 : exq sa F N S rt cd183 P Q 37 L st h = (ivV F 177 3 7 st h fun r s h' => P 40 L (pu r s) h') := rfl
theorem e183_40 : exq sa F N S rt cd183 P Q 40 L st h = (ldR L 0 fun v => P 41 L (v :: st) h) := rfl
theorem e183_41 : exq sa F N S rt cd183 P Q 41 L st h = (ldR L 0 fun v => P 42 L (v :: st) h) := rfl
theorem e183_42 : exq sa F N S rt cd183 P Q 42 L st h = (tR st fun a s => opt (hO h a 7) fun fs => opt (fs[17]?) fun v => P 45 L (v :: s) h) := rfl
theorem e183_45 : exq sa F N S rt cd183 P Q 45 L st h = (P 46 L (.int (Int32.ofInt (1)) :: st) h) := rfl
theorem e183_46 : exq sa F N S rt cd183 P Q 46 L st h = (ivV F 175 3 7 st h fun r s h' => P 49 L (pu r s) h') := rfl
theorem e183_49 : exq sa F N S rt cd183 P Q 49 L st h = (tI st fun v s => s = [] ∧ (rt = some .int ∨ (rt = some .boolean ∧ (v = 0 ∨ v = 1))) ∧ Q (some (.int v)) h) := rfl
theorem e184_0 : exq sa F N S rt cd184 P Q 0 L st h = (ldR L 0 fun v => P 1 L (v :: st) h) := rfl
theorem e184_1 : exq sa F N S rt cd184 P Q 1 L st h = (ldI L 1 fun v => P 2 L (.int v :: st) h) := rfl
theorem e184_2 : exq sa F N S rt cd184 P Q 2 L st h = (ivV F 162 2 7 st h fun r s h' => P 5 L (pu r s) h') := rfl
theorem e184_5 : exq sa F N S rt cd184 P Q 5 L st h = (tI st fun a s => br (a = 0) (P 18 L s h) (P 8 L s h)) := rfl
theorem e184_8 : exq sa F N S rt cd184 P Q 8 L st h = (ldI L 2 fun v => P 9 L (.int v :: st) h) := rfl
theorem e184_9 : exq sa F N S rt cd184 P Q 9 L st h = (P 10 L (.int (Int32.ofInt (0)) :: st) h) := rfl
theorem e184_10 : exq sa F N S rt cd184 P Q 10 L st h = (P 12 L (.int (Int32.ofInt (9)) :: st) h) := rfl
theorem e184_12 : exq sa F N S rt cd184 P Q 12 L st h = (ivS F 135 3 st h fun r s h' => P 15 L (pu r s) h') := rfl
theorem e184_15 : exq sa F N S rt cd184 P Q 15 L st h = (tI st fun a s => br (a = 0) (P 18 L s h) (P 21 L s h)) := rfl
theorem e184_18 : exq sa F N S rt cd184 P Q 18 L st h = (P 20 L (.int (Int32.ofInt (-1000001)) :: st) h) := rfl
theorem e184_20 : exq sa F N S rt cd184 P Q 20 L st h = (tI st fun v s => s = [] ∧ (rt = some .int ∨ (rt = some .boolean ∧ (v = 0 ∨ v = 1))) ∧ Q (some (.int v)) h) := rfl
theorem e184_21 : exq sa F N S rt cd184 P Q 21 L st h = (ldR L 0 fun v => P 22 L (v :: st) h) := rfl
theorem e184_22 : exq sa F N S rt cd184 P Q 22 L st h = (tR st fun a s => opt (hO h a 7) fun fs => opt (fs[17]?) fun v => P 25 L (v :: s) h) := rfl
theorem e184_25 : exq sa F N S rt cd184 P Q 25 L st h = (P 27 L (.int (Int32.ofInt (24)) :: st) h) := rfl
theorem e184_27 : exq sa F N S rt cd184 P Q 27 L st h = (ldI L 1 fun v => P 28 L (.int v :: st) h) := rfl
theorem e184_28 : exq sa F N S rt cd184 P Q 28 L st h = (tI st fun b s => tI s fun a s => P 29 L (.int (a + b) :: s) h) := rfl
theorem e184_29 : exq sa F N S rt cd184 P Q 29 L st h = (ald sa st h fun v s => P 30 L (.int v :: s) h) := rfl
theorem e184_30 : exq sa F N S rt cd184 P Q 30 L st h = (P 31 L (.int (Int32.ofInt (2)) :: st) h) := rfl
theorem e184_31 : exq sa F N S rt cd184 P Q 31 L st h = (tI st fun b s => tI s fun a s => br (a = b) (P 34 L s h) (P 37 L s h)) := rfl
theorem e184_34 : exq sa F N S rt cd184 P Q 34 L st h = (P 36 L (.int (Int32.ofInt (-1000002)) :: st) h) := rfl
theorem e184_36 : exq sa F N S rt cd184 P Q 36 L st h = (tI st fun v s => s = [] ∧ (rt = some .int ∨ (rt = some .boolean ∧ (v = 0 ∨ v = 1))) ∧ Q (some (.int v)) h) := rfl
theorem e184_37 : exq sa F N S rt cd184 P Q 37 L st h = (ldR L 0 fun v => P 38 L (v :: st) h) := rfl
theorem e184_38 : exq sa F N S rt cd184 P Q 38 L st h = (ivV F 178 1 7 st h fun r s h' => P 41 L (pu r s) h') := rfl
theorem e184_41 : exq sa F N S rt cd184 P Q 41 L st h = (ldR L 0 fun v => P 42 L (v :: st) h) := rfl
theorem e184_42 : exq sa F N S rt cd184 P Q 42 L st h = (tR st fun a s => opt (hO h a 7) fun fs => opt (fs[17]?) fun v => P 45 L (v :: s) h) := rfl
theorem e184_45 : exq sa F N S rt cd184 P Q 45 L st h = (P 47 L (.int (Int32.ofInt (14)) :: st) h) := rfl
theorem e184_47 : exq sa F N S rt cd184 P Q 47 L st h = (ldI L 1 fun v => P 48 L (.int v :: st) h) := rfl
theorem e184_48 : exq sa F N S rt cd184 P Q 48 L st h = (tI st fun b s => tI s fun a s => P 49 L (.int (a + b) :: s) h) := rfl
theorem e184_49 : exq sa F N S rt cd184 P Q 49 L st h = (ald sa st h fun v s => P 50 L (.int v :: s) h) := rfl
theorem e184_50 : exq sa F N S rt cd184 P Q 50 L st h = (tI st fun v s => lvS L 3 (.int v) fun L' => P 51 L' s h) := rfl
theorem e184_51 : exq sa F N S rt cd184 P Q 51 L st h = (ldR L 0 fun v => P 52 L (v :: st) h) := rfl
theorem e184_52 : exq sa F N S rt cd184 P Q 52 L st h = (tR st fun a s => opt (hO h a 7) fun fs => opt (fs[17]?) fun v => P 55 L (v :: s) h) := rfl
theorem e184_55 : exq sa F N S rt cd184 P Q 55 L st h = (P 57 L (.int (Int32.ofInt (14)) :: st) h) := rfl
theorem e184_57 : exq sa F N S rt cd184 P Q 57 L st h = (ldI L 1 fun v => P 58 L (.int v :: st) h) := rfl
theorem e184_58 : exq sa F N S rt cd184 P Q 58 L st h = (tI st fun b s => tI s fun a s => P 59 L (.int (a + b) :: s) h) := rfl
theorem e184_59 : exq sa F N S rt cd184 P Q 59 L st h = (ldI L 2 fun v => P 60 L (.int v :: st) h) := rfl
theorem e184_60 : exq sa F N S rt cd184 P Q 60 L st h = (tI st fun v s => tI s fun i s => tR s fun a s => opt (hI h a) fun q => ix i q.1 fun k => P 61 L s (hS h a (.inl (0, q.1, .inl (upd q.2 k v))))) := rfl
theorem e184_61 : exq sa F N S rt cd184 P Q 61 L st h = (ldI L 3 fun v => P 62 L (.int v :: st) h) := rfl
theorem e184_62 : exq sa F N S rt cd184 P Q 62 L st h = (tI st fun v s => s = [] ∧ (rt = some .int ∨ (rt = some .boolean ∧ (v = 0 ∨ v = 1))) ∧ Q (some (.int v)) h) := rfl
theorem e185_0 : exq sa F N S rt cd185 P Q 0 L st h = (ldR L 0 fun v => P 1 L (v :: st) h) := rfl
theorem e185_1 : exq sa F N S rt cd185 P Q 1 L st h = (ldI L 1 fun v => P 2 L (.int v :: st) h) := rfl
theorem e185_2 : exq sa F N S rt cd185 P Q 2 L st h = (ivV F 163 2 7 st h fun r s h' => P 5 L (pu r s) h') := rfl
theorem e185_5 : exq sa F N S rt cd185 P Q 5 L st h = (tI st fun a s => br (a = 0) (P 16 L s h) (P 8 L s h)) := rfl
theorem e185_8 : exq sa F N S rt cd185 P Q 8 L st h = (ldR L 0 fun v => P 9 L (v :: st) h) := rfl
theorem e185_9 : exq sa F N S rt cd185 P Q 9 L st h = (ldI L 2 fun v => P 10 L (.int v :: st) h) := rfl
theorem e185_10 : exq sa F N S rt cd185 P Q 10 L st h = (ivV F 164 2 7 st h fun r s h' => P 13 L (pu r s) h') := rfl
theorem e185_13 : exq sa F N S rt cd185 P Q 13 L st h = (tI st fun a s => br (a = 0) (P 16 L s h) (P 19 L s h)) := rfl
theorem e185_16 : exq sa F N S rt cd185 P Q 16 L st h = (P 18 L (.int (Int32.ofInt (-1000001)) :: st) h) := rfl
theorem e185_18 : exq sa F N S rt cd185 P Q 18 L st h = (tI st fun v s => s = [] ∧ (rt = some .int ∨ (rt = some .boolean ∧ (v = 0 ∨ v = 1))) ∧ Q (some (.int v)) h) := rfl
theorem e185_19 : exq sa F N S rt cd185 P Q 19 L st h = (ldR L 0 fun v => P 20 L (v :: st) h) := rfl
theorem e185_20 : exq sa F N S rt cd185 P Q 20 L st h = (tR st fun a s => opt (hO h a 7) fun fs => opt (fs[17]?) fun v => P 23 L (v :: s) h) := rfl
theorem e185_23 : exq sa F N S rt cd185 P Q 23 L st h = (P 24 L (.int (Int32.ofInt (2)) :: st) h) := rfl
theorem e185_24 : exq sa F N S rt cd185 P Q 24 L st h = (ldI L 1 fun v => P 25 L (.int v :: st) h) := rfl
theorem e185_25 : exq sa F N S rt cd185 P Q 25 L st h = (tI st fun b s => tI s fun a s => P 26 L (.int (a + b) :: s) h) := rfl
theorem e185_26 : exq sa F N S rt cd185 P Q 26 L st h = (ald sa st h fun v s => P 27 L (.int v :: s) h) := rfl
theorem e185_27 : exq sa F N S rt cd185 P Q 27 L st h = (tI st fun v s => lvS L 3 (.int v) fun L' => P 28 L' s h) := rfl
theorem e185_28 : exq sa F N S rt cd185 P Q 28 L st h = (ldI L 3 fun v => P 29 L (.int v :: st) h) := rfl
theorem e185_29 : exq sa F N S rt cd185 P Q 29 L st h = (ldI L 2 fun v => P 30 L (.int v :: st) h) := rfl
theorem e185_30 : exq sa F N S rt cd185 P Q 30 L st h = (tI st fun b s => tI s fun a s => br (a = b) (P 46 L s h) (P 33 L s h)) := rfl
theorem e185_33 : exq sa F N S rt cd185 P Q 33 L st h = (ldR L 0 fun v => P 34 L (v :: st) h) := rfl
theorem e185_34 : exq sa F N S rt cd185 P Q 34 L st h = (tR st fun a s => opt (hO h a 7) fun fs => opt (fs[17]?) fun v => P 37 L (v :: s) h) := rfl
theorem e185_37 : exq sa F N S rt cd185 P Q 37 L st h = (P 38 L (.int (Int32.ofInt (1)) :: st) h) := rfl
theorem e185_38 : exq sa F N S rt cd185 P Q 38 L st h = (ald sa st h fun v s => P 39 L (.int v :: s) h) := rfl
theorem e185_39 : exq sa F N S rt cd185 P Q 39 L st h = (ldI L 1 fun v => P 40 L (.int v :: st) h) := rfl
theorem e185_40 : exq sa F N S rt cd185 P Q 40 L st h = (ivS F 136 2 st h fun r s h' => P 43 L (pu r s) h') := rfl
theorem e185_43 : exq sa F N S rt cd185 P Q 43 L st h = (tI st fun a s => br (a = 0) (P 49 L s h) (P 46 L s h)) := rfl
theorem e185_46 : exq sa F N S rt cd185 P Q 46 L st h = (P 48 L (.int (Int32.ofInt (-1000002)) :: st) h) := rfl
theorem e185_48 : exq sa F N S rt cd185 P Q 48 L st h = (tI st fun v s => s = [] ∧ (rt = some .int ∨ (rt = some .boolean ∧ (v = 0 ∨ v = 1))) ∧ Q (some (.int v)) h) := rfl
theorem e185_49 : exq sa F N S rt cd185 P Q 49 L st h = (ldR L 0 fun v => P 50 L (v :: st) h) := rfl
theorem e185_50 : exq sa F N S rt cd185 P Q 50 L st h = (ivV F 178 1 7 st h fun r s h' => P 53 L (pu r s) h') := rfl
theorem e185_53 : exq sa F N S rt cd185 P Q 53 L st h = (ldR L 0 fun v => P 54 L (v :: st) h) := rfl
theorem e185_54 : exq sa F N S rt cd185 P Q 54 L st h = (tR st fun a s => opt (hO h a 7) fun fs => opt (fs[17]?) fun v => P 57 L (v :: s) h) := rfl
theorem e185_57 : exq sa F N S rt cd185 P Q 57 L st h = (P 58 L (.int (Int32.ofInt (2)) :: st) h) := rfl
theorem e185_58 : exq sa F N S rt cd185 P Q 58 L st h = (ldI L 1 fun v => P 59 L (.int v :: st) h) := rfl
theorem e185_59 : exq sa F N S rt cd185 P Q 59 L st h = (tI st fun b s => tI s fun a s => P 60 L (.int (a + b) :: s) h) := rfl
theorem e185_60 : exq sa F N S rt cd185 P Q 60 L st h = (ldI L 2 fun v => P 61 L (.int v :: st) h) := rfl
theorem e185_61 : exq sa F N S rt cd185 P Q 61 L st h = (tI st fun v s => tI s fun i s => tR s fun a s => opt (hI h a) fun q => ix i q.1 fun k => P 62 L s (hS h a (.inl (0, q.1, .inl (upd q.2 k v))))) := rfl
theorem e185_62 : exq sa F N S rt cd185 P Q 62 L st h = (ldI L 3 fun v => P 63 L (.int v :: st) h) := rfl
theorem e185_63 : exq sa F N S rt cd185 P Q 63 L st h = (tI st fun v s => s = [] ∧ (rt = some .int ∨ (rt = some .boolean ∧ (v = 0 ∨ v = 1))) ∧ Q (some (.int v)) h) := rfl
theorem e186_0 : exq sa F N S rt cd186 P Q 0 L st h = (ldR L 0 fun v => P 1 L (v :: st) h) := rfl
theorem e186_1 : exq sa F N S rt cd186 P Q 1 L st h = (ldI L 1 fun v => P 2 L (.int v :: st) h) := rfl
theorem e186_2 : exq sa F N S rt cd186 P Q 2 L st h = (ivV F 162 2 7 st h fun r s h' => P 5 L (pu r s) h') := rfl
theorem e186_5 : exq sa F N S rt cd186 P Q 5 L st h = (tI st fun a s => br (a = 0) (P 8 L s h) (P 11 L s h)) := rfl
theorem e186_8 : exq sa F N S rt cd186 P Q 8 L st h = (P 10 L (.int (Int32.ofInt (-1000001)) :: st) h) := rfl
theorem e186_10 : exq sa F N S rt cd186 P Q 10 L st h = (tI st fun v s => s = [] ∧ (rt = some .int ∨ (rt = some .boolean ∧ (v = 0 ∨ v = 1))) ∧ Q (some (.int v)) h) := rfl
theorem e186_11 : exq sa F N S rt cd186 P Q 11 L st h = (ldI L 2 fun v => P 12 L (.int v :: st) h) := rfl
theorem e186_12 : exq sa F N S rt cd186 P Q 12 L st h = (ex1 sa F N S rt P Q 12 L st h (.tableswitch 147 0 5 #[40, 50, 60, 70, 97, 107]) 0 0 0 0) := rfl
theorem e186_52 : exq sa F N S rt cd186 P Q 52 L st h = (ldR L 0 fun v => P 53 L (v :: st) h) := rfl
theorem e186_53 : exq sa F N S rt cd186 P Q 53 L st h = (tR st fun a s => opt (hO h a 7) fun fs => opt (fs[17]?) fun v => P 56 L (v :: s) h) := rfl
theorem e186_56 : exq sa F N S rt cd186 P Q 56 L st h = (P 58 L (.int (Int32.ofInt (14)) :: st) h) := rfl
theorem e186_58 : exq sa F N S rt cd186 P Q 58 L st h = (ldI L 1 fun v => P 59 L (.int v :: st) h) := rfl
theorem e186_59 : exq sa F N S rt cd186 P Q 59 L st h = (tI st fun b s => tI s fun a s => P 60 L (.int (a + b) :: s) h) := rfl
theorem e186_60 : exq sa F N S rt cd186 P Q 60 L st h = (ald sa st h fun v s => P 61 L (.int v :: s) h) := rfl
theorem e186_61 : exq sa F N S rt cd186 P Q 61 L st h = (tI st fun v s => s = [] ∧ (rt = some .int ∨ (rt = some .boolean ∧ (v = 0 ∨ v = 1))) ∧ Q (some (.int v)) h) := rfl
theorem e186_62 : exq sa F N S rt cd186 P Q 62 L st h = (ldR L 0 fun v => P 63 L (v :: st) h) := rfl
theorem e186_63 : exq sa F N S rt cd186 P Q 63 L st h = (tR st fun a s => opt (hO h a 7) fun fs => opt (fs[17]?) fun v => P 66 L (v :: s) h) := rfl
theorem e186_66 : exq sa F N S rt cd186 P Q 66 L st h = (P 68 L (.int (Int32.ofInt (19)) :: st) h) := rfl
theorem e186_68 : exq sa F N S rt cd186 P Q 68 L st h = (ldI L 1 fun v => P 69 L (.int v :: st) h) := rfl
theorem e186_69 : exq sa F N S rt cd186 P Q 69 L st h = (tI st fun b s => tI s fun a s => P 70 L (.int (a + b) :: s) h) := rfl
theorem e186_70 : exq sa F N S rt cd186 P Q 70 L st h = (ald sa st h fun v s => P 71 L (.int v :: s) h) := rfl
theorem e186_71 : exq sa F N S rt cd186 P Q 71 L st h = (tI st fun v s => s = [] ∧ (rt = some .int ∨ (rt = some .boolean ∧ (v = 0 ∨ v = 1))) ∧ Q (some (.int v)) h) := rfl
theorem e186_72 : exq sa F N S rt cd186 P Q 72 L st h = (ldR L 0 fun v => P 73 L (v :: st) h) := rfl
theorem e186_73 : exq sa F N S rt cd186 P Q 73 L st h = (tR st fun a s => opt (hO h a 7) fun fs => opt (fs[17]?) fun v => P 76 L (v :: s) h) := rfl
theorem e186_76 : exq sa F N S rt cd186 P Q 76 L st h = (P 78 L (.int (Int32.ofInt (24)) :: st) h) := rfl
theorem e186_78 : exq sa F N S rt cd186 P Q 78 L st h = (ldI L 1 fun v => P 79 L (.int v :: st) h) := rfl
theorem e186_79 : exq sa F N S rt cd186 P Q 79 L st h = (tI st fun b s => tI s fun a s => P 80 L (.int (a + b) :: s) h) := rfl
theorem e186_80 : exq sa F N S rt cd186 P Q 80 L st h = (ald sa st h fun v s => P 81 L (.int v :: s) h) := rfl
theorem e186_81 : exq sa F N S rt cd186 P Q 81 L st h = (tI st fun v s => s = [] ∧ (rt = some .int ∨ (rt = some .boolean ∧ (v = 0 ∨ v = 1))) ∧ Q (some (.int v)) h) := rfl
theorem e186_82 : exq sa F N S rt cd186 P Q 82 L st h = (ldR L 0 fun v => P 83 L (v :: st) h) := rfl
theorem e186_83 : exq sa F N S rt cd186 P Q 83 L st h = (tR st fun a s => opt (hO h a 7) fun fs => opt (fs[17]?) fun v => P 86 L (v :: s) h) := rfl
theorem e186_86 : exq sa F N S rt cd186 P Q 86 L st h = (P 88 L (.int (Int32.ofInt (24)) :: st) h) := rfl
theorem e186_88 : exq sa F N S rt cd186 P Q 88 L st h = (ldI L 1 fun v => P 89 L (.int v :: st) h) := rfl
theorem e186_89 : exq sa F N S rt cd186 P Q 89 L st h = (tI st fun b s => tI s fun a s => P 90 L (.int (a + b) :: s) h) := rfl
theorem e186_90 : exq sa F N S rt cd186 P Q 90 L st h = (ald sa st h fun v s => P 91 L (.int v :: s) h) := rfl
theorem e186_91 : exq sa F N S rt cd186 P Q 91 L st h = (P 92 L (.int (Int32.ofInt (1)) :: st) h) := rfl
theorem e186_92 : exq sa F N S rt cd186 P Q 92 L st h = (tI st fun b s => tI s fun a s => br (a = b) (P 95 L s h) (P 107 L s h)) := rfl
theorem e186_95 : exq sa F N S rt cd186 P Q 95 L st h = (ldR L 0 fun v => P 96 L (v :: st) h) := rfl
theorem e186_96 : exq sa F N S rt cd186 P Q 96 L st h = (tR st fun a s => opt (hO h a 7) fun fs => opt (fs[17]?) fun v => P 99 L (v :: s) h) := rfl
theorem e186_99 : exq sa F N S rt cd186 P Q 99 L st h = (P 101 L (.int (Int32.ofInt (29)) :: st) h) := rfl
theorem e186_101 : exq sa F N S rt cd186 P Q 101 L st h = (ldI L 1 fun v => P 102 L (.int v :: st) h) := rfl
theorem e186_102 : exq sa F N S rt cd186 P Q 102 L st h = (tI st fun b s => tI s fun a s => P 103 L (.int (a + b) :: s) h) := rfl
theorem e186_103 : exq sa F N S rt cd186 P Q 103 L st h = (ald sa st h fun v s => P 104 L (.int v :: s) h) := rfl
theorem e186_104 : exq sa F N S rt cd186 P Q 104 L st h = (P 108 L st h) := rfl
theorem e186_107 : exq sa F N S rt cd186 P Q 107 L st h = (P 108 L (.int (Int32.ofInt (0)) :: st) h) := rfl
theorem e186_108 : exq sa F N S rt cd186 P Q 108 L st h = (tI st fun v s => s = [] ∧ (rt = some .int ∨ (rt = some .boolean ∧ (v = 0 ∨ v = 1))) ∧ Q (some (.int v)) h) := rfl
theorem e186_109 : exq sa F N S rt cd186 P Q 109 L st h = (ldR L 0 fun v => P 110 L (v :: st) h) := rfl
theorem e186_110 : exq sa F N S rt cd186 P Q 110 L st h = (ldR L 0 fun v => P 111 L (v :: st) h) := rfl
theorem e186_111 : exq sa F N S rt cd186 P Q 111 L st h = (tR st fun a s => opt (hO h a 7) fun fs => opt (fs[17]?) fun v => P 114 L (v :: s) h) := rfl
theorem e186_114 : exq sa F N S rt cd186 P Q 114 L st h = (ldI L 1 fun v => P 115 L (.int v :: st) h) := rfl
theorem e186_115 : exq sa F N S rt cd186 P Q 115 L st h = (ivV F 167 3 7 st h fun r s h' => P 118 L (pu r s) h') := rfl
theorem e186_118 : exq sa F N S rt cd186 P Q 118 L st h = (tI st fun v s => s = [] ∧ (rt = some .int ∨ (rt = some .boolean ∧ (v = 0 ∨ v = 1))) ∧ Q (some (.int v)) h) := rfl
theorem e186_119 : exq sa F N S rt cd186 P Q 119 L st h = (ldR L 0 fun v => P 120 L (v :: st) h) := rfl
theorem e186_120 : exq sa F N S rt cd186 P Q 120 L st h = (tR st fun a s => opt (hO h a 7) fun fs => opt (fs[17]?) fun v => P 123 L (v :: s) h) := rfl
theorem e186_123 : exq sa F N S rt cd186 P Q 123 L st h = (P 125 L (.int (Int32.ofInt (24)) :: st) h) := rfl
theorem e186_125 : exq sa F N S rt cd186 P Q 125 L st h = (ldI L 1 fun v => P 126 L (.int v :: st) h) := rfl
theorem e186_126 : exq sa F N S rt cd186 P Q 126 L st h = (tI st fun b s => tI s fun a s => P 127 L (.int (a + b) :: s) h) := rfl
theorem e186_127 : exq sa F N S rt cd186 P Q 127 L st h = (ald sa st h fun v s => P 128 L (.int v :: s) h) := rfl
theorem e186_128 : exq sa F N S rt cd186 P Q 128 L st h = (P 129 L (.int (Int32.ofInt (1)) :: st) h) := rfl
theorem e186_129 : exq sa F N S rt cd186 P Q 129 L st h = (tI st fun b s => tI s fun a s => br (a = b) (P 132 L s h) (P 156 L s h)) := rfl
theorem e186_132 : exq sa F N S rt cd186 P Q 132 L st h = (ldR L 0 fun v => P 133 L (v :: st) h) := rfl
theorem e186_133 : exq sa F N S rt cd186 P Q 133 L st h = (tR st fun a s => opt (hO h a 7) fun fs => opt (fs[17]?) fun v => P 136 L (v :: s) h) := rfl
theorem e186_136 : exq sa F N S rt cd186 P Q 136 L st h = (P 138 L (.int (Int32.ofInt (14)) :: st) h) := rfl
theorem e186_138 : exq sa F N S rt cd186 P Q 138 L st h = (ldI L 1 fun v => P 139 L (.int v :: st) h) := rfl
theorem e186_139 : exq sa F N S rt cd186 P Q 139 L st h = (tI st fun b s => tI s fun a s => P 140 L (.int (a + b) :: s) h) := rfl
theorem e186_140 : exq sa F N S rt cd186 P Q 140 L st h = (ald sa st h fun v s => P 141 L (.int v :: s) h) := rfl
theorem e186_141 : exq sa F N S rt cd186 P Q 141 L st h = (tI st fun a s => br (a ≤ 0) (P 156 L s h) (P 144 L s h)) := rfl
theorem e186_144 : exq sa F N S rt cd186 P Q 144 L st h = (ldR L 0 fun v => P 145 L (v :: st) h) := rfl
theorem e186_145 : exq sa F N S rt cd186 P Q 145 L st h = (ldR L 0 fun v => P 146 L (v :: st) h) := rfl
theorem e186_146 : exq sa F N S rt cd186 P Q 146 L st h = (tR st fun a s => opt (hO h a 7) fun fs => opt (fs[17]?) fun v => P 149 L (v :: s) h) := rfl
theorem e186_149 : exq sa F N S rt cd186 P Q 149 L st h = (ldI L 1 fun v => P 150 L (.int v :: st) h) := rfl
theorem e186_150 : exq sa F N S rt cd186 P Q 150 L st h = (ivV F 170 3 7 st h fun r s h' => P 153 L (pu r s) h') := rfl
theorem e186_153 : exq sa F N S rt cd186 P Q 153 L st h = (P 158 L st h) := rfl
theorem e186_156 : exq sa F N S rt cd186 P Q 156 L st h = (P 158 L (.int (Int32.ofInt (-1000000)) :: st) h) := rfl
theorem e186_158 : exq sa F N S rt cd186 P Q 158 L st h = (tI st fun v s => s = [] ∧ (rt = some .int ∨ (rt = some .boolean ∧ (v = 0 ∨ v = 1))) ∧ Q (some (.int v)) h) := rfl
theorem e186_159 : exq sa F N S rt cd186 P Q 159 L st h = (P 161 L (.int (Int32.ofInt (-1000001)) :: st) h) := rfl
theorem e186_161 : exq sa F N S rt cd186 P Q 161 L st h = (tI st fun v s => s = [] ∧ (rt = some .int ∨ (rt = some .boolean ∧ (v = 0 ∨ v = 1))) ∧ Q (some (.int v)) h) := rfl
theorem e187_0 : exq sa F N S rt cd187 P Q 0 L st h = (ldR L 0 fun v => P 1 L (v :: st) h) := rfl
theorem e187_1 : exq sa F N S rt cd187 P Q 1 L st h = (ldI L 1 fun v => P 2 L (.int v :: st) h) := rfl
theorem e187_2 : exq sa F N S rt cd187 P Q 2 L st h = (ivV F 163 2 7 st h fun r s h' => P 5 L (pu r s) h') := rfl
theorem e187_5 : exq sa F N S rt cd187 P Q 5 L st h = (tI st fun a s => br (a = 0) (P 17 L s h) (P 8 L s h)) := rfl
theorem e187_8 : exq sa F N S rt cd187 P Q 8 L st h = (ldI L 2 fun v => P 9 L (.int v :: st) h) := rfl
theorem e187_9 : exq sa F N S rt cd187 P Q 9 L st h = (P 10 L (.int (Int32.ofInt (0)) :: st) h) := rfl
theorem e187_10 : exq sa F N S rt cd187 P Q 10 L st h = (P 11 L (.int (Int32.ofInt (3)) :: st) h) := rfl
theorem e187_11 : exq sa F N S rt cd187 P Q 11 L st h = (ivS F 135 3 st h fun r s h' => P 14 L (pu r s) h') := rfl
theorem e187_14 : exq sa F N S rt cd187 P Q 14 L st h = (tI st fun a s => br (a = 0) (P 17 L s h) (P 22 L s h)) := rfl
theorem e187_17 : exq sa F N S rt cd187 P Q 17 L st h = (P 19 L (.int (Int32.ofInt (-1000001)) :: st) h) := rfl
theorem e187_19 : exq sa F N S rt cd187 P Q 19 L st h = (P 81 L st h) := rfl
theorem e187_22 : exq sa F N S rt cd187 P Q 22 L st h = (ldI L 2 fun v => P 23 L (.int v :: st) h) := rfl
theorem e187_23 : exq sa F N S rt cd187 P Q 23 L st h = (tI st fun a s => br (a = 0) (P 26 L s h) (P 37 L s h)) := rfl
theorem e187_26 : exq sa F N S rt cd187 P Q 26 L st h = (ldR L 0 fun v => P 27 L (v :: st) h) := rfl
theorem e187_27 : exq sa F N S rt cd187 P Q 27 L st h = (tR st fun a s => opt (hO h a 7) fun fs => opt (fs[17]?) fun v => P 30 L (v :: s) h) := rfl
theorem e187_30 : exq sa F N S rt cd187 P Q 30 L st h = (P 31 L (.int (Int32.ofInt (2)) :: st) h) := rfl
theorem e187_31 : exq sa F N S rt cd187 P Q 31 L st h = (ldI L 1 fun v => P 32 L (.int v :: st) h) := rfl
theorem e187_32 : exq sa F N S rt cd187 P Q 32 L st h = (tI st fun b s => tI s fun a s => P 33 L (.int (a + b) :: s) h) := rfl
theorem e187_33 : exq sa F N S rt cd187 P Q 33 L st h = (ald sa st h fun v s => P 34 L (.int v :: s) h) := rfl
theorem e187_34 : exq sa F N S rt cd187 P Q 34 L st h = (P 81 L st h) := rfl
theorem e187_37 : exq sa F N S rt cd187 P Q 37 L st h = (ldI L 2 fun v => P 38 L (.int v :: st) h) := rfl
theorem e187_38 : exq sa F N S rt cd187 P Q 38 L st h = (P 39 L (.int (Int32.ofInt (1)) :: st) h) := rfl
theorem e187_39 : exq sa F N S rt cd187 P Q 39 L st h = (tI st fun b s => tI s fun a s => br (a = b) (P 42 L s h) (P 54 L s h)) := rfl
theorem e187_42 : exq sa F N S rt cd187 P Q 42 L st h = (ldR L 0 fun v => P 43 L (v :: st) h) := rfl
theorem e187_43 : exq sa F N S rt cd187 P Q 43 L st h = (tR st fun a s => opt (hO h a 7) fun fs => opt (fs[16]?) fun v => P 46 L (v :: s) h) := rfl
theorem e187_46 : exq sa F N S rt cd187 P Q 46 L st h = (P 48 L (.int (Int32.ofInt (9)) :: st) h) := rfl
theorem e187_48 : exq sa F N S rt cd187 P Q 48 L st h = (ldI L 1 fun v => P 49 L (.int v :: st) h) := rfl
theorem e187_49 : exq sa F N S rt cd187 P Q 49 L st h = (tI st fun b s => tI s fun a s => P 50 L (.int (a + b) :: s) h) := rfl
theorem e187_50 : exq sa F N S rt cd187 P Q 50 L st h = (ald sa st h fun v s => P 51 L (.int v :: s) h) := rfl
theorem e187_51 : exq sa F N S rt cd187 P Q 51 L st h = (P 81 L st h) := rfl
theorem e187_54 : exq sa F N S rt cd187 P Q 54 L st h = (ldI L 2 fun v => P 55 L (.int v :: st) h) := rfl
theorem e187_55 : exq sa F N S rt cd187 P Q 55 L st h = (P 56 L (.int (Int32.ofInt (2)) :: st) h) := rfl
theorem e187_56 : exq sa F N S rt cd187 P Q 56 L st h = (tI st fun b s => tI s fun a s => br (a = b) (P 59 L s h) (P 71 L s h)) := rfl
theorem e187_59 : exq sa F N S rt cd187 P Q 59 L st h = (ldR L 0 fun v => P 60 L (v :: st) h) := rfl
theorem e187_60 : exq sa F N S rt cd187 P Q 60 L st h = (tR st fun a s => opt (hO h a 7) fun fs => opt (fs[17]?) fun v => P 63 L (v :: s) h) := rfl
theorem e187_63 : exq sa F N S rt cd187 P Q 63 L st h = (P 65 L (.int (Int32.ofInt (8)) :: st) h) := rfl
theorem e187_65 : exq sa F N S rt cd187 P Q 65 L st h = (ldI L 1 fun v => P 66 L (.int v :: st) h) := rfl
theorem e187_66 : exq sa F N S rt cd187 P Q 66 L st h = (tI st fun b s => tI s fun a s => P 67 L (.int (a + b) :: s) h) := rfl
theorem e187_67 : exq sa F N S rt cd187 P Q 67 L st h = (ald sa st h fun v s => P 68 L (.int v :: s) h) := rfl
theorem e187_68 : exq sa F N S rt cd187 P Q 68 L st h = (P 81 L st h) := rfl
theorem e187_71 : exq sa F N S rt cd187 P Q 71 L st h = (ldR L 0 fun v => P 72 L (v :: st) h) := rfl
theorem e187_72 : exq sa F N S rt cd187 P Q 72 L st h = (tR st fun a s => opt (hO h a 7) fun fs => opt (fs[17]?) fun v => P 75 L (v :: s) h) := rfl
theorem e187_75 : exq sa F N S rt cd187 P Q 75 L st h = (P 76 L (.int (Int32.ofInt (1)) :: st) h) := rfl
theorem e187_76 : exq sa F N S rt cd187 P Q 76 L st h = (ald sa st h fun v s => P 77 L (.int v :: s) h) := rfl
theorem e187_77 : exq sa F N S rt cd187 P Q 77 L st h = (ldI L 1 fun v => P 78 L (.int v :: st) h) := rfl
theorem e187_78 : exq sa F N S rt cd187 P Q 78 L st h = (tI st fun b s => tI s fun a s => P 79 L (.int (a >>> (b &&& 31)) :: s) h) := rfl
theorem e187_79 : exq sa F N S rt cd187 P Q 79 L st h = (P 80 L (.int (Int32.ofInt (1)) :: st) h) := rfl
theorem e187_80 : exq sa F N S rt cd187 P Q 80 L st h = (tI st fun b s => tI s fun a s => P 81 L (.int (a &&& b) :: s) h) := rfl
theorem e187_81 : exq sa F N S rt cd187 P Q 81 L st h = (tI st fun v s => s = [] ∧ (rt = some .int ∨ (rt = some .boolean ∧ (v = 0 ∨ v = 1))) ∧ Q (some (.int v)) h) := rfl
theorem e188_0 : exq sa F N S rt cd188 P Q 0 L st h = (ldR L 0 fun v => P 1 L (v :: st) h) := rfl
theorem e188_1 : exq sa F N S rt cd188 P Q 1 L st h = (ldI L 1 fun v => P 2 L (.int v :: st) h) := rfl
theorem e188_2 : exq sa F N S rt cd188 P Q 2 L st h = (P 3 L (.int (Int32.ofInt (0)) :: st) h) := rfl
theorem e188_3 : exq sa F N S rt cd188 P Q 3 L st h = (P 4 L (.int (Int32.ofInt (5)) :: st) h) := rfl
theorem e188_4 : exq sa F N S rt cd188 P Q 4 L st h = (ivS F 135 3 st h fun r s h' => P 7 L (pu r s) h') := rfl
theorem e188_7 : exq sa F N S rt cd188 P Q 7 L st h = (ivV F 180 2 7 st h fun r s h' => P 10 L (pu r s) h') := rfl
theorem e188_10 : exq sa F N S rt cd188 P Q 10 L st h = (tI st fun v s => lvS L 2 (.int v) fun L' => P 11 L' s h) := rfl
theorem e188_11 : exq sa F N S rt cd188 P Q 11 L st h = (ldI L 2 fun v => P 12 L (.int v :: st) h) := rfl
theorem e188_12 : exq sa F N S rt cd188 P Q 12 L st h = (tI st fun a s => br (0 ≤ a) (P 17 L s h) (P 15 L s h)) := rfl
theorem e188_15 : exq sa F N S rt cd188 P Q 15 L st h = (ldI L 2 fun v => P 16 L (.int v :: st) h) := rfl
theorem e188_16 : exq sa F N S rt cd188 P Q 16 L st h = (tI st fun v s => s = [] ∧ (rt = some .int ∨ (rt = some .boolean ∧ (v = 0 ∨ v = 1))) ∧ Q (some (.int v)) h) := rfl
theorem e188_17 : exq sa F N S rt cd188 P Q 17 L st h = (ldI L 1 fun v => P 18 L (.int v :: st) h) := rfl
theorem e188_18 : exq sa F N S rt cd188 P Q 18 L st h = (tI st fun a s => br (a = 0) (P 21 L s h) (P 33 L s h)) := rfl
theorem e188_21 : exq sa F N S rt cd188 P Q 21 L st h = (ldR L 0 fun v => P 22 L (v :: st) h) := rfl
theorem e188_22 : exq sa F N S rt cd188 P Q 22 L st h = (ldR L 0 fun v => P 23 L (v :: st) h) := rfl
theorem e188_23 : exq sa F N S rt cd188 P Q 23 L st h = (tR st fun a s => opt (hO h a 7) fun fs => opt (fs[17]?) fun v => P 26 L (v :: s) h) := rfl
theorem e188_26 : exq sa F N S rt cd188 P Q 26 L st h = (P 27 L (.int (Int32.ofInt (1)) :: st) h) := rfl
theorem e188_27 : exq sa F N S rt cd188 P Q 27 L st h = (ivV F 175 3 7 st h fun r s h' => P 30 L (pu r s) h') := rfl
theorem e188_30 : exq sa F N S rt cd188 P Q 30 L st h = (P 102 L st h) := rfl
theorem e188_33 : exq sa F N S rt cd188 P Q 33 L st h = (ldI L 1 fun v => P 34 L (.int v :: st) h) := rfl
theorem e188_34 : exq sa F N S rt cd188 P Q 34 L st h = (P 35 L (.int (Int32.ofInt (1)) :: st) h) := rfl
theorem e188_35 : exq sa F N S rt cd188 P Q 35 L st h = (tI st fun b s => tI s fun a s => br (a = b) (P 38 L s h) (P 50 L s h)) := rfl
theorem e188_38 : exq sa F N S rt cd188 P Q 38 L st h = (ldR L 0 fun v => P 39 L (v :: st) h) := rfl
theorem e188_39 : exq sa F N S rt cd188 P Q 39 L st h = (ldR L 0 fun v => P 40 L (v :: st) h) := rfl
theorem e188_40 : exq sa F N S rt cd188 P Q 40 L st h = (tR st fun a s => opt (hO h a 7) fun fs => opt (fs[17]?) fun v => P 43 L (v :: s) h) := rfl
theorem e188_43 : exq sa F N S rt cd188 P Q 43 L st h = (P 44 L (.int (Int32.ofInt (2)) :: st) h) := rfl
theorem e188_44 : exq sa F N S rt cd188 P Q 44 L st h = (ivV F 175 3 7 st h fun r s h' => P 47 L (pu r s) h') := rfl
theorem e188_47 : exq sa F N S rt cd188 P Q 47 L st h = (P 102 L st h) := rfl
theorem e188_50 : exq sa F N S rt cd188 P Q 50 L st h = (ldI L 1 fun v => P 51 L (.int v :: st) h) := rfl
theorem e188_51 : exq sa F N S rt cd188 P Q 51 L st h = (P 52 L (.int (Int32.ofInt (2)) :: st) h) := rfl
theorem e188_52 : exq sa F N S rt cd188 P Q 52 L st h = (tI st fun b s => tI s fun a s => br (a = b) (P 55 L s h) (P 64 L s h)) := rfl
theorem e188_55 : exq sa F N S rt cd188 P Q 55 L st h = (ldR L 0 fun v => P 56 L (v :: st) h) := rfl
theorem e188_56 : exq sa F N S rt cd188 P Q 56 L st h = (tR st fun a s => opt (hO h a 7) fun fs => opt (fs[17]?) fun v => P 59 L (v :: s) h) := rfl
theorem e188_59 : exq sa F N S rt cd188 P Q 59 L st h = (P 60 L (.int (Int32.ofInt (1)) :: st) h) := rfl
theorem e188_60 : exq sa F N S rt cd188 P Q 60 L st h = (ald sa st h fun v s => P 61 L (.int v :: s) h) := rfl
theorem e188_61 : exq sa F N S rt cd188 P Q 61 L st h = (P 102 L st h) := rfl
theorem e188_64 : exq sa F N S rt cd188 P Q 64 L st h = (ldI L 1 fun v => P 65 L (.int v :: st) h) := rfl
theorem e188_65 : exq sa F N S rt cd188 P Q 65 L st h = (P 66 L (.int (Int32.ofInt (3)) :: st) h) := rfl
theorem e188_66 : exq sa F N S rt cd188 P Q 66 L st h = (tI st fun b s => tI s fun a s => br (a = b) (P 69 L s h) (P 82 L s h)) := rfl
theorem e188_69 : exq sa F N S rt cd188 P Q 69 L st h = (ldR L 0 fun v => P 70 L (v :: st) h) := rfl
theorem e188_70 : exq sa F N S rt cd188 P Q 70 L st h = (ldR L 0 fun v => P 71 L (v :: st) h) := rfl
theorem e188_71 : exq sa F N S rt cd188 P Q 71 L st h = (tR st fun a s => opt (hO h a 7) fun fs => opt (fs[17]?) fun v => P 74 L (v :: s) h) := rfl
theorem e188_74 : exq sa F N S rt cd188 P Q 74 L st h = (P 75 L (.int (Int32.ofInt (1)) :: st) h) := rfl
theorem e188_75 : exq sa F N S rt cd188 P Q 75 L st h = (ald sa st h fun v s => P 76 L (.int v :: s) h) := rfl
theorem e188_76 : exq sa F N S rt cd188 P Q 76 L st h = (ivV F 174 2 7 st h fun r s h' => P 79 L (pu r s) h') := rfl
theorem e188_79 : exq sa F N S rt cd188 P Q 79 L st h = (P 102 L st h) := rfl
theorem e188_82 : exq sa F N S rt cd188 P Q 82 L st h = (ldI L 1 fun v => P 83 L (.int v :: st) h) := rfl
theorem e188_83 : exq sa F N S rt cd188 P Q 83 L st h = (P 84 L (.int (Int32.ofInt (4)) :: st) h) := rfl
theorem e188_84 : exq sa F N S rt cd188 P Q 84 L st h = (tI st fun b s => tI s fun a s => br (a = b) (P 87 L s h) (P 96 L s h)) := rfl
theorem e188_87 : exq sa F N S rt cd188 P Q 87 L st h = (ldR L 0 fun v => P 88 L (v :: st) h) := rfl
theorem e188_88 : exq sa F N S rt cd188 P Q 88 L st h = (tR st fun a s => opt (hO h a 7) fun fs => opt (fs[16]?) fun v => P 91 L (v :: s) h) := rfl
theorem e188_91 : exq sa F N S rt cd188 P Q 91 L st h = (P 92 L (.int (Int32.ofInt (2)) :: st) h) := rfl
theorem e188_92 : exq sa F N S rt cd188 P Q 92 L st h = (ald sa st h fun v s => P 93 L (.int v :: s) h) := rfl
theorem e188_93 : exq sa F N S rt cd188 P Q 93 L st h = (P 102 L st h) := rfl
theorem e188_96 : exq sa F N S rt cd188 P Q 96 L st h = (ldR L 0 fun v => P 97 L (v :: st) h) := rfl
theorem e188_97 : exq sa F N S rt cd188 P Q 97 L st h = (tR st fun a s => opt (hO h a 7) fun fs => opt (fs[16]?) fun v => P 100 L (v :: s) h) := rfl
theorem e188_100 : exq sa F N S rt cd188 P Q 100 L st h = (P 101 L (.int (Int32.ofInt (3)) :: st) h) := rfl
theorem e188_101 : exq sa F N S rt cd188 P Q 101 L st h = (ald sa st h fun v s => P 102 L (.int v :: s) h) := rfl
theorem e188_102 : exq sa F N S rt cd188 P Q 102 L st h = (tI st fun v s => s = [] ∧ (rt = some .int ∨ (rt = some .boolean ∧ (v = 0 ∨ v = 1))) ∧ Q (some (.int v)) h) := rfl
theorem e189_0 : exq sa F N S rt cd189 P Q 0 L st h = (P 1 L (.int (Int32.ofInt (0)) :: st) h) := rfl
theorem e189_1 : exq sa F N S rt cd189 P Q 1 L st h = (tI st fun v s => lvS L 1 (.int v) fun L' => P 2 L' s h) := rfl
theorem e189_2 : exq sa F N S rt cd189 P Q 2 L st h = (ldI L 1 fun v => P 3 L (.int v :: st) h) := rfl
theorem e189_3 : exq sa F N S rt cd189 P Q 3 L st h = (P 5 L (.int (Int32.ofInt (34)) :: st) h) := rfl
theorem e189_5 : exq sa F N S rt cd189 P Q 5 L st h = (tI st fun b s => tI s fun a s => br (b ≤ a) (P 26 L s h) (P 8 L s h)) := rfl
theorem e189_8 : exq sa F N S rt cd189 P Q 8 L st h = (ldR L 0 fun v => P 9 L (v :: st) h) := rfl
theorem e189_9 : exq sa F N S rt cd189 P Q 9 L st h = (tR st fun a s => opt (hO h a 7) fun fs => opt (fs[18]?) fun v => P 12 L (v :: s) h) := rfl
theorem e189_12 : exq sa F N S rt cd189 P Q 12 L st h = (ldI L 1 fun v => P 13 L (.int v :: st) h) := rfl
theorem e189_13 : exq sa F N S rt cd189 P Q 13 L st h = (ldR L 0 fun v => P 14 L (v :: st) h) := rfl
theorem e189_14 : exq sa F N S rt cd189 P Q 14 L st h = (tR st fun a s => opt (hO h a 7) fun fs => opt (fs[17]?) fun v => P 17 L (v :: s) h) := rfl
theorem e189_17 : exq sa F N S rt cd189 P Q 17 L st h = (ldI L 1 fun v => P 18 L (.int v :: st) h) := rfl
theorem e189_18 : exq sa F N S rt cd189 P Q 18 L st h = (ald sa st h fun v s => P 19 L (.int v :: s) h) := rfl
theorem e189_19 : exq sa F N S rt cd189 P Q 19 L st h = (tI st fun v s => tI s fun i s => tR s fun a s => opt (hI h a) fun q => ix i q.1 fun k => P 20 L s (hS h a (.inl (0, q.1, .inl (upd q.2 k v))))) := rfl
theorem e189_20 : exq sa F N S rt cd189 P Q 20 L st h = (ldI L 1 fun v => lvS L 1 (.int (v + Int32.ofInt (1))) fun L' => P 23 L' st h) := rfl
theorem e189_23 : exq sa F N S rt cd189 P Q 23 L st h = (P 2 L st h) := rfl
theorem e189_26 : exq sa F N S rt cd189 P Q 26 L st h = (ldR L 0 fun v => P 27 L (v :: st) h) := rfl
theorem e189_27 : exq sa F N S rt cd189 P Q 27 L st h = (P 28 L (.int (Int32.ofInt (0)) :: st) h) := rfl
theorem e189_28 : exq sa F N S rt cd189 P Q 28 L st h = (pfd st h 7 19 0 fun s h' => P 31 L s h') := rfl
theorem e189_31 : exq sa F N S rt cd189 P Q 31 L st h = (st = [] ∧ rt = none ∧ Q none h) := rfl
theorem e190_0 : exq sa F N S rt cd190 P Q 0 L st h = (P 1 L (.int (Int32.ofInt (0)) :: st) h) := rfl
theorem e190_1 : exq sa F N S rt cd190 P Q 1 L st h = (tI st fun v s => lvS L 2 (.int v) fun L' => P 2 L' s h) := rfl
theorem e190_2 : exq sa F N S rt cd190 P Q 2 L st h = (ldI L 2 fun v => P 3 L (.int v :: st) h) := rfl
theorem e190_3 : exq sa F N S rt cd190 P Q 3 L st h = (ldI L 1 fun v => P 4 L (.int v :: st) h) := rfl
theorem e190_4 : exq sa F N S rt cd190 P Q 4 L st h = (tI st fun b s => tI s fun a s => br (b ≤ a) (P 21 L s h) (P 7 L s h)) := rfl
theorem e190_7 : exq sa F N S rt cd190 P Q 7 L st h = (ldR L 0 fun v => P 8 L (v :: st) h) := rfl
theorem e190_8 : exq sa F N S rt cd190 P Q 8 L st h = (ldR L 0 fun v => P 9 L (v :: st) h) := rfl
theorem e190_9 : exq sa F N S rt cd190 P Q 9 L st h = (tR st fun a s => opt (hO h a 7) fun fs => opt (fs[18]?) fun v => P 12 L (v :: s) h) := rfl
theorem e190_12 : exq sa F N S rt cd190 P Q 12 L st h = (ivV F 173 2 7 st h fun r s h' => P 15 L (pu r s) h') := rfl
theorem e190_15 : exq sa F N S rt cd190 P Q 15 L st h = (ldI L 2 fun v => lvS L 2 (.int (v + Int32.ofInt (1))) fun L' => P 18 L' st h) := rfl
theorem e190_18 : exq sa F N S rt cd190 P Q 18 L st h = (P 2 L st h) := rfl
theorem e190_21 : exq sa F N S rt cd190 P Q 21 L st h = (st = [] ∧ rt = none ∧ Q none h) := rfl
theorem e191_0 : exq sa F N S rt cd191 P Q 0 L st h = (ldI L 0 fun v => P 1 L (.int v :: st) h) := rfl
theorem e191_1 : exq sa F N S rt cd191 P Q 1 L st h = (P 2 L (.int (Int32.ofInt (0)) :: st) h) := rfl
theorem e191_2 : exq sa F N S rt cd191 P Q 2 L st h = (P 4 L (.int (Int32.ofInt (60)) :: st) h) := rfl
theorem e191_4 : exq sa F N S rt cd191 P Q 4 L st h = (ivS F 135 3 st h fun r s h' => P 7 L (pu r s) h') := rfl
theorem e191_7 : exq sa F N S rt cd191 P Q 7 L st h = (tI st fun v s => s = [] ∧ (rt = some .int ∨ (rt = some .boolean ∧ (v = 0 ∨ v = 1))) ∧ Q (some (.int v)) h) := rfl
theorem e192_0 : exq sa F N S rt cd192 P Q 0 L st h = (ldR L 0 fun v => P 1 L (v :: st) h) := rfl
theorem e192_1 : exq sa F N S rt cd192 P Q 1 L st h = (ldI L 1 fun v => P 2 L (.int v :: st) h) := rfl
theorem e192_2 : exq sa F N S rt cd192 P Q 2 L st h = (ivV F 162 2 7 st h fun r s h' => P 5 L (pu r s) h') := rfl
theorem e192_5 : exq sa F N S rt cd192 P Q 5 L st h = (tI st fun a s => br (a = 0) (P 24 L s h) (P 8 L s h)) := rfl
theorem e192_8 : exq sa F N S rt cd192 P Q 8 L st h = (ldI L 2 fun v => P 9 L (.int v :: st) h) := rfl
theorem e192_9 : exq sa F N S rt cd192 P Q 9 L st h = (ivS F 191 1 st h fun r s h' => P 12 L (pu r s) h') := rfl
theorem e192_12 : exq sa F N S rt cd192 P Q 12 L st h = (tI st fun a s => br (a = 0) (P 24 L s h) (P 15 L s h)) := rfl
theorem e192_15 : exq sa F N S rt cd192 P Q 15 L st h = (ldI L 3 fun v => P 16 L (.int v :: st) h) := rfl
theorem e192_16 : exq sa F N S rt cd192 P Q 16 L st h = (P 17 L (.int (Int32.ofInt (0)) :: st) h) := rfl
theorem e192_17 : exq sa F N S rt cd192 P Q 17 L st h = (P 18 L (.int (Int32.ofInt (1)) :: st) h) := rfl
theorem e192_18 : exq sa F N S rt cd192 P Q 18 L st h = (ivS F 135 3 st h fun r s h' => P 21 L (pu r s) h') := rfl
theorem e192_21 : exq sa F N S rt cd192 P Q 21 L st h = (tI st fun a s => br (a = 0) (P 24 L s h) (P 27 L s h)) := rfl
theorem e192_24 : exq sa F N S rt cd192 P Q 24 L st h = (P 26 L (.int (Int32.ofInt (-1000001)) :: st) h) := rfl
theorem e192_26 : exq sa F N S rt cd192 P Q 26 L st h = (tI st fun v s => s = [] ∧ (rt = some .int ∨ (rt = some .boolean ∧ (v = 0 ∨ v = 1))) ∧ Q (some (.int v)) h) := rfl
theorem e192_27 : exq sa F N S rt cd192 P Q 27 L st h = (ldR L 0 fun v => P 28 L (v :: st) h) := rfl
theorem e192_28 : exq sa F N S rt cd192 P Q 28 L st h = (ivV F 189 1 7 st h fun r s h' => P 31 L (pu r s) h') := rfl
theorem e192_31 : exq sa F N S rt cd192 P Q 31 L st h = (ldR L 0 fun v => P 32 L (v :: st) h) := rfl
theorem e192_32 : exq sa F N S rt cd192 P Q 32 L st h = (ldI L 2 fun v => P 33 L (.int v :: st) h) := rfl
theorem e192_33 : exq sa F N S rt cd192 P Q 33 L st h = (ivV F 190 2 7 st h fun r s h' => P 36 L (pu r s) h') := rfl
theorem e192_36 : exq sa F N S rt cd192 P Q 36 L st h = (ldI L 3 fun v => P 37 L (.int v :: st) h) := rfl
theorem e192_37 : exq sa F N S rt cd192 P Q 37 L st h = (P 38 L (.int (Int32.ofInt (1)) :: st) h) := rfl
theorem e192_38 : exq sa F N S rt cd192 P Q 38 L st h = (tI st fun b s => tI s fun a s => br (a = b) (P 41 L s h) (P 53 L s h)) := rfl
theorem e192_41 : exq sa F N S rt cd192 P Q 41 L st h = (ldR L 0 fun v => P 42 L (v :: st) h) := rfl
theorem e192_42 : exq sa F N S rt cd192 P Q 42 L st h = (tR st fun a s => opt (hO h a 7) fun fs => opt (fs[18]?) fun v => P 45 L (v :: s) h) := rfl
theorem e192_45 : exq sa F N S rt cd192 P Q 45 L st h = (P 47 L (.int (Int32.ofInt (14)) :: st) h) := rfl
theorem e192_47 : exq sa F N S rt cd192 P Q 47 L st h = (ldI L 1 fun v => P 48 L (.int v :: st) h) := rfl
theorem e192_48 : exq sa F N S rt cd192 P Q 48 L st h = (tI st fun b s => tI s fun a s => P 49 L (.int (a + b) :: s) h) := rfl
theorem e192_49 : exq sa F N S rt cd192 P Q 49 L st h = (ald sa st h fun v s => P 50 L (.int v :: s) h) := rfl
theorem e192_50 : exq sa F N S rt cd192 P Q 50 L st h = (P 80 L st h) := rfl
theorem e192_53 : exq sa F N S rt cd192 P Q 53 L st h = (ldR L 0 fun v => P 54 L (v :: st) h) := rfl
theorem e192_54 : exq sa F N S rt cd192 P Q 54 L st h = (tR st fun a s => opt (hO h a 7) fun fs => opt (fs[18]?) fun v => P 57 L (v :: s) h) := rfl
theorem e192_57 : exq sa F N S rt cd192 P Q 57 L st h = (P 59 L (.int (Int32.ofInt (24)) :: st) h) := rfl
theorem e192_59 : exq sa F N S rt cd192 P Q 59 L st h = (ldI L 1 fun v => P 60 L (.int v :: st) h) := rfl
theorem e192_60 : exq sa F N S rt cd192 P Q 60 L st h = (tI st fun b s => tI s fun a s => P 61 L (.int (a + b) :: s) h) := rfl
theorem e192_61 : exq sa F N S rt cd192 P Q 61 L st h = (ald sa st h fun v s => P 62 L (.int v :: s) h) := rfl
theorem e192_62 : exq sa F N S rt cd192 P Q 62 L st h = (P 63 L (.int (Int32.ofInt (2)) :: st) h) := rfl
theorem e192_63 : exq sa F N S rt cd192 P Q 63 L st h = (tI st fun b s => tI s fun a s => br (a = b) (P 66 L s h) (P 71 L s h)) := rfl
theorem e192_66 : exq sa F N S rt cd192 P Q 66 L st h = (P 68 L (.int (Int32.ofInt (-1000000)) :: st) h) := rfl
theorem e192_68 : exq sa F N S rt cd192 P Q 68 L st h = (P 80 L st h) := rfl
theorem e192_71 : exq sa F N S rt cd192 P Q 71 L st h = (ldR L 0 fun v => P 72 L (v :: st) h) := rfl
theorem e192_72 : exq sa F N S rt cd192 P Q 72 L st h = (tR st fun a s => opt (hO h a 7) fun fs => opt (fs[18]?) fun v => P 75 L (v :: s) h) := rfl
theorem e192_75 : exq sa F N S rt cd192 P Q 75 L st h = (P 77 L (.int (Int32.ofInt (19)) :: st) h) := rfl
theorem e192_77 : exq sa F N S rt cd192 P Q 77 L st h = (ldI L 1 fun v => P 78 L (.int v :: st) h) := rfl
theorem e192_78 : exq sa F N S rt cd192 P Q 78 L st h = (tI st fun b s => tI s fun a s => P 79 L (.int (a + b) :: s) h) := rfl
theorem e192_79 : exq sa F N S rt cd192 P Q 79 L st h = (ald sa st h fun v s => P 80 L (.int v :: s) h) := rfl
theorem e192_80 : exq sa F N S rt cd192 P Q 80 L st h = (tI st fun v s => s = [] ∧ (rt = some .int ∨ (rt = some .boolean ∧ (v = 0 ∨ v = 1))) ∧ Q (some (.int v)) h) := rfl
theorem e193_0 : exq sa F N S rt cd193 P Q 0 L st h = (ldR L 0 fun v => P 1 L (v :: st) h) := rfl
theorem e193_1 : exq sa F N S rt cd193 P Q 1 L st h = (ldI L 1 fun v => P 2 L (.int v :: st) h) := rfl
theorem e193_2 : exq sa F N S rt cd193 P Q 2 L st h = (ivV F 163 2 7 st h fun r s h' => P 5 L (pu r s) h') := rfl
theorem e193_5 : exq sa F N S rt cd193 P Q 5 L st h = (tI st fun a s => br (a = 0) (P 15 L s h) (P 8 L s h)) := rfl
theorem e193_8 : exq sa F N S rt cd193 P Q 8 L st h = (ldI L 2 fun v => P 9 L (.int v :: st) h) := rfl
theorem e193_9 : exq sa F N S rt cd193 P Q 9 L st h = (ivS F 191 1 st h fun r s h' => P 12 L (pu r s) h') := rfl
theorem e193_12 : exq sa F N S rt cd193 P Q 12 L st h = (tI st fun a s => br (a = 0) (P 15 L s h) (P 18 L s h)) := rfl
theorem e193_15 : exq sa F N S rt cd193 P Q 15 L st h = (P 17 L (.int (Int32.ofInt (-1000001)) :: st) h) := rfl
theorem e193_17 : exq sa F N S rt cd193 P Q 17 L st h = (tI st fun v s => s = [] ∧ (rt = some .int ∨ (rt = some .boolean ∧ (v = 0 ∨ v = 1))) ∧ Q (some (.int v)) h) := rfl
theorem e193_18 : exq sa F N S rt cd193 P Q 18 L st h = (ldR L 0 fun v => P 19 L (v :: st) h) := rfl
theorem e193_19 : exq sa F N S rt cd193 P Q 19 L st h = (ivV F 189 1 7 st h fun r s h' => P 22 L (pu r s) h') := rfl
theorem e193_22 : exq sa F N S rt cd193 P Q 22 L st h = (ldR L 0 fun v => P 23 L (v :: st) h) := rfl
theorem e193_23 : exq sa F N S rt cd193 P Q 23 L st h = (ldI L 2 fun v => P 24 L (.int v :: st) h) := rfl
theorem e193_24 : exq sa F N S rt cd193 P Q 24 L st h = (ivV F 190 2 7 st h fun r s h' => P 27 L (pu r s) h') := rfl
theorem e193_27 : exq sa F N S rt cd193 P Q 27 L st h = (ldR L 0 fun v => P 28 L (v :: st) h) := rfl
theorem e193_28 : exq sa F N S rt cd193 P Q 28 L st h = (tR st fun a s => opt (hO h a 7) fun fs => opt (fs[18]?) fun v => P 31 L (v :: s) h) := rfl
theorem e193_31 : exq sa F N S rt cd193 P Q 31 L st h = (P 32 L (.int (Int32.ofInt (1)) :: st) h) := rfl
theorem e193_32 : exq sa F N S rt cd193 P Q 32 L st h = (ald sa st h fun v s => P 33 L (.int v :: s) h) := rfl
theorem e193_33 : exq sa F N S rt cd193 P Q 33 L st h = (ldI L 1 fun v => P 34 L (.int v :: st) h) := rfl
theorem e193_34 : exq sa F N S rt cd193 P Q 34 L st h = (ivS F 136 2 st h fun r s h' => P 37 L (pu r s) h') := rfl
theorem e193_37 : exq sa F N S rt cd193 P Q 37 L st h = (tI st fun a s => br (a = 0) (P 45 L s h) (P 40 L s h)) := rfl
theorem e193_40 : exq sa F N S rt cd193 P Q 40 L st h = (P 42 L (.int (Int32.ofInt (-1000000)) :: st) h) := rfl
theorem e193_42 : exq sa F N S rt cd193 P Q 42 L st h = (P 53 L st h) := rfl
theorem e193_45 : exq sa F N S rt cd193 P Q 45 L st h = (ldR L 0 fun v => P 46 L (v :: st) h) := rfl
theorem e193_46 : exq sa F N S rt cd193 P Q 46 L st h = (tR st fun a s => opt (hO h a 7) fun fs => opt (fs[18]?) fun v => P 49 L (v :: s) h) := rfl
theorem e193_49 : exq sa F N S rt cd193 P Q 49 L st h = (P 50 L (.int (Int32.ofInt (2)) :: st) h) := rfl
theorem e193_50 : exq sa F N S rt cd193 P Q 50 L st h = (ldI L 1 fun v => P 51 L (.int v :: st) h) := rfl
theorem e193_51 : exq sa F N S rt cd193 P Q 51 L st h = (tI st fun b s => tI s fun a s => P 52 L (.int (a + b) :: s) h) := rfl
theorem e193_52 : exq sa F N S rt cd193 P Q 52 L st h = (ald sa st h fun v s => P 53 L (.int v :: s) h) := rfl
theorem e193_53 : exq sa F N S rt cd193 P Q 53 L st h = (tI st fun v s => s = [] ∧ (rt = some .int ∨ (rt = some .boolean ∧ (v = 0 ∨ v = 1))) ∧ Q (some (.int v)) h) := rfl
end EL
