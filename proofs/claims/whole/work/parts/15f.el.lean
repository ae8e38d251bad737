/-! what each instruction does -/
section EL
variable {sa : aS} {F : aF} {N S : Nat} {rt : Option FieldType} {P : aK} {Q : aQ} {L : aL} {st : List Value} {h : aH}
theorem e224_0 : exq sa F N S rt cd224 P Q 0 L st h = (ldI L 1 fun v => P 1 L (.int v :: st) h) := rfl
theorem e224_1 : exq sa F N S rt cd224 P Q 1 L st h = (ex1 sa F N S rt P Q 1 L st h (.tableswitch 136 0 7 #[47, 82, 89, 96, 103, 113, 126, 131]) 0 0 0 0) := rfl
theorem e224_48 : exq sa F N S rt cd224 P Q 48 L st h = (P 49 L (.int (Int32.ofInt (0)) :: st) h) := rfl
theorem e224_49 : exq sa F N S rt cd224 P Q 49 L st h = (tI st fun v s => lvS L 2 (.int v) fun L' => P 50 L' s h) := rfl
theorem e224_50 : exq sa F N S rt cd224 P Q 50 L st h = (P 51 L (.int (Int32.ofInt (0)) :: st) h) := rfl
theorem e224_51 : exq sa F N S rt cd224 P Q 51 L st h = (tI st fun v s => lvS L 3 (.int v) fun L' => P 52 L' s h) := rfl
theorem e224_52 : exq sa F N S rt cd224 P Q 52 L st h = (ldI L 3 fun v => P 53 L (.int v :: st) h) := rfl
theorem e224_53 : exq sa F N S rt cd224 P Q 53 L st h = (P 55 L (.int (Int32.ofInt (8)) :: st) h) := rfl
theorem e224_55 : exq sa F N S rt cd224 P Q 55 L st h = (tI st fun b s => tI s fun a s => br (b ≤ a) (P 81 L s h) (P 58 L s h)) := rfl
theorem e224_58 : exq sa F N S rt cd224 P Q 58 L st h = (ldI L 2 fun v => P 59 L (.int v :: st) h) := rfl
theorem e224_59 : exq sa F N S rt cd224 P Q 59 L st h = (ldR L 0 fun v => P 60 L (v :: st) h) := rfl
theorem e224_60 : exq sa F N S rt cd224 P Q 60 L st h = (tR st fun a s => opt (hO h a 7) fun fs => opt (fs[0]?) fun v => P 63 L (v :: s) h) := rfl
theorem e224_63 : exq sa F N S rt cd224 P Q 63 L st h = (ldI L 3 fun v => P 64 L (.int v :: st) h) := rfl
theorem e224_64 : exq sa F N S rt cd224 P Q 64 L st h = (ex1 sa F N S rt P Q 64 L st h (.iaload) 0 0 0 0) := rfl
theorem e224_65 : exq sa F N S rt cd224 P Q 65 L st h = (tI st fun a s => br (a < 0) (P 72 L s h) (P 68 L s h)) := rfl
theorem e224_68 : exq sa F N S rt cd224 P Q 68 L st h = (P 69 L (.int (Int32.ofInt (1)) :: st) h) := rfl
theorem e224_69 : exq sa F N S rt cd224 P Q 69 L st h = (P 73 L st h) := rfl
theorem e224_72 : exq sa F N S rt cd224 P Q 72 L st h = (P 73 L (.int (Int32.ofInt (0)) :: st) h) := rfl
theorem e224_73 : exq sa F N S rt cd224 P Q 73 L st h = (tI st fun b s => tI s fun a s => P 74 L (.int (a + b) :: s) h) := rfl
theorem e224_74 : exq sa F N S rt cd224 P Q 74 L st h = (tI st fun v s => lvS L 2 (.int v) fun L' => P 75 L' s h) := rfl
theorem e224_75 : exq sa F N S rt cd224 P Q 75 L st h = (ldI L 3 fun v => lvS L 3 (.int (v + Int32.ofInt (1))) fun L' => P 78 L' st h) := rfl
theorem e224_78 : exq sa F N S rt cd224 P Q 78 L st h = (P 52 L st h) := rfl
theorem e224_81 : exq sa F N S rt cd224 P Q 81 L st h = (ldI L 2 fun v => P 82 L (.int v :: st) h) := rfl
theorem e224_82 : exq sa F N S rt cd224 P Q 82 L st h = (tI st fun v s => s = [] ∧ (rt = some .int ∨ (rt = some .boolean ∧ (v = 0 ∨ v = 1))) ∧ Q (some (.int v)) h) := rfl
theorem e224_83 : exq sa F N S rt cd224 P Q 83 L st h = (ldR L 0 fun v => P 84 L (v :: st) h) := rfl
theorem e224_84 : exq sa F N S rt cd224 P Q 84 L st h = (tR st fun a s => opt (hO h a 7) fun fs => opt (fs[16]?) fun v => P 87 L (v :: s) h) := rfl
theorem e224_87 : exq sa F N S rt cd224 P Q 87 L st h = (P 88 L (.int (Int32.ofInt (0)) :: st) h) := rfl
theorem e224_88 : exq sa F N S rt cd224 P Q 88 L st h = (ex1 sa F N S rt P Q 88 L st h (.iaload) 0 0 0 0) := rfl
theorem e224_89 : exq sa F N S rt cd224 P Q 89 L st h = (tI st fun v s => s = [] ∧ (rt = some .int ∨ (rt = some .boolean ∧ (v = 0 ∨ v = 1))) ∧ Q (some (.int v)) h) := rfl
theorem e224_90 : exq sa F N S rt cd224 P Q 90 L st h = (ldR L 0 fun v => P 91 L (v :: st) h) := rfl
theorem e224_91 : exq sa F N S rt cd224 P Q 91 L st h = (tR st fun a s => opt (hO h a 7) fun fs => opt (fs[16]?) fun v => P 94 L (v :: s) h) := rfl
theorem e224_94 : exq sa F N S rt cd224 P Q 94 L st h = (P 95 L (.int (Int32.ofInt (1)) :: st) h) := rfl
theorem e224_95 : exq sa F N S rt cd224 P Q 95 L st h = (ex1 sa F N S rt P Q 95 L st h (.iaload) 0 0 0 0) := rfl
theorem e224_96 : exq sa F N S rt cd224 P Q 96 L st h = (tI st fun v s => s = [] ∧ (rt = some .int ∨ (rt = some .boolean ∧ (v = 0 ∨ v = 1))) ∧ Q (some (.int v)) h) := rfl
theorem e224_97 : exq sa F N S rt cd224 P Q 97 L st h = (ldR L 0 fun v => P 98 L (v :: st) h) := rfl
theorem e224_98 : exq sa F N S rt cd224 P Q 98 L st h = (tR st fun a s => opt (hO h a 7) fun fs => opt (fs[17]?) fun v => P 101 L (v :: s) h) := rfl
theorem e224_101 : exq sa F N S rt cd224 P Q 101 L st h = (P 102 L (.int (Int32.ofInt (0)) :: st) h) := rfl
theorem e224_102 : exq sa F N S rt cd224 P Q 102 L st h = (ex1 sa F N S rt P Q 102 L st h (.iaload) 0 0 0 0) := rfl
theorem e224_103 : exq sa F N S rt cd224 P Q 103 L st h = (tI st fun v s => s = [] ∧ (rt = some .int ∨ (rt = some .boolean ∧ (v = 0 ∨ v = 1))) ∧ Q (some (.int v)) h) := rfl
theorem e224_104 : exq sa F N S rt cd224 P Q 104 L st h = (ldR L 0 fun v => P 105 L (v :: st) h) := rfl
theorem e224_105 : exq sa F N S rt cd224 P Q 105 L st h = (tR st fun a s => opt (hO h a 7) fun fs => opt (fs[17]?) fun v => P 108 L (v :: s) h) := rfl
theorem e224_108 : exq sa F N S rt cd224 P Q 108 L st h = (P 109 L (.int (Int32.ofInt (1)) :: st) h) := rfl
theorem e224_109 : exq sa F N S rt cd224 P Q 109 L st h = (ex1 sa F N S rt P Q 109 L st h (.iaload) 0 0 0 0) := rfl
theorem e224_110 : exq sa F N S rt cd224 P Q 110 L st h = (ex1 sa F N S rt P Q 110 L st h (.invokestatic 233) 1 137 1 7) := rfl
theorem e224_113 : exq sa F N S rt cd224 P Q 113 L st h = (tI st fun v s => s = [] ∧ (rt = some .int ∨ (rt = some .boolean ∧ (v = 0 ∨ v = 1))) ∧ Q (some (.int v)) h) := rfl
theorem e224_114 : exq sa F N S rt cd224 P Q 114 L st h = (ldR L 0 fun v => P 115 L (v :: st) h) := rfl
theorem e224_115 : exq sa F N S rt cd224 P Q 115 L st h = (ldR L 0 fun v => P 116 L (v :: st) h) := rfl
theorem e224_116 : exq sa F N S rt cd224 P Q 116 L st h = (tR st fun a s => opt (hO h a 7) fun fs => opt (fs[17]?) fun v => P 119 L (v :: s) h) := rfl
theorem e224_119 : exq sa F N S rt cd224 P Q 119 L st h = (P 120 L (.int (Int32.ofInt (2)) :: st) h) := rfl
theorem e224_120 : exq sa F N S rt cd224 P Q 120 L st h = (ex1 sa F N S rt P Q 120 L st h (.invokevirtual 211) 0 175 3 7) := rfl
theorem e224_123 : exq sa F N S rt cd224 P Q 123 L st h = (ex1 sa F N S rt P Q 123 L st h (.invokestatic 233) 1 137 1 7) := rfl
theorem e224_126 : exq sa F N S rt cd224 P Q 126 L st h = (tI st fun v s => s = [] ∧ (rt = some .int ∨ (rt = some .boolean ∧ (v = 0 ∨ v = 1))) ∧ Q (some (.int v)) h) := rfl
theorem e224_127 : exq sa F N S rt cd224 P Q 127 L st h = (ldR L 0 fun v => P 128 L (v :: st) h) := rfl
theorem e224_128 : exq sa F N S rt cd224 P Q 128 L st h = (tR st fun a s => opt (hO h a 7) fun fs => opt (fs[20]?) fun v => P 131 L (v :: s) h) := rfl
theorem e224_131 : exq sa F N S rt cd224 P Q 131 L st h = (tI st fun v s => s = [] ∧ (rt = some .int ∨ (rt = some .boolean ∧ (v = 0 ∨ v = 1))) ∧ Q (some (.int v)) h) := rfl
theorem e224_132 : exq sa F N S rt cd224 P Q 132 L st h = (ldR L 0 fun v => P 133 L (v :: st) h) := rfl
theorem e224_133 : exq sa F N S rt cd224 P Q 133 L st h = (tR st fun a s => opt (hO h a 7) fun fs => opt (fs[4]?) fun v => P 136 L (v :: s) h) := rfl
theorem e224_136 : exq sa F N S rt cd224 P Q 136 L st h = (tI st fun v s => s = [] ∧ (rt = some .int ∨ (rt = some .boolean ∧ (v = 0 ∨ v = 1))) ∧ Q (some (.int v)) h) := rfl
theorem e224_137 : exq sa F N S rt cd224 P Q 137 L st h = (P 139 L (.int (Int32.ofInt (-1000001)) :: st) h) := rfl
theorem e224_139 : exq sa F N S rt cd224 P Q 139 L st h = (tI st fun v s => s = [] ∧ (rt = some .int ∨ (rt = some .boolean ∧ (v = 0 ∨ v = 1))) ∧ Q (some (.int v)) h) := rfl
theorem e225_0 : exq sa F N S rt cd225 P Q 0 L st h = (ldI L 0 fun v => P 1 L (.int v :: st) h) := rfl
theorem e225_1 : exq sa F N S rt cd225 P Q 1 L st h = (ldI L 0 fun v => P 2 L (.int v :: st) h) := rfl
theorem e225_2 : exq sa F N S rt cd225 P Q 2 L st h = (P 3 L (.int (Int32.ofInt (1)) :: st) h) := rfl
theorem e225_3 : exq sa F N S rt cd225 P Q 3 L st h = (tI st fun b s => tI s fun a s => P 4 L (.int (a.toUInt32 >>> (b.toUInt32 &&& Int32.toUInt32 31)).toInt32 :: s) h) := rfl
theorem e225_4 : exq sa F N S rt cd225 P Q 4 L st h = (P 7 L (.int (Int32.ofInt (1431655765)) :: st) h) := rfl
theorem e225_7 : exq sa F N S rt cd225 P Q 7 L st h = (tI st fun b s => tI s fun a s => P 8 L (.int (a &&& b) :: s) h) := rfl
theorem e225_8 : exq sa F N S rt cd225 P Q 8 L st h = (tI st fun b s => tI s fun a s => P 9 L (.int (a - b) :: s) h) := rfl
theorem e225_9 : exq sa F N S rt cd225 P Q 9 L st h = (tI st fun v s => lvS L 0 (.int v) fun L' => P 10 L' s h) := rfl
theorem e225_10 : exq sa F N S rt cd225 P Q 10 L st h = (ldI L 0 fun v => P 11 L (.int v :: st) h) := rfl
theorem e225_11 : exq sa F N S rt cd225 P Q 11 L st h = (P 14 L (.int (Int32.ofInt (858993459)) :: st) h) := rfl
theorem e225_14 : exq sa F N S rt cd225 P Q 14 L st h = (tI st fun b s => tI s fun a s => P 15 L (.int (a &&& b) :: s) h) := rfl
theorem e225_15 : exq sa F N S rt cd225 P Q 15 L st h = (ldI L 0 fun v => P 16 L (.int v :: st) h) := rfl
theorem e225_16 : exq sa F N S rt cd225 P Q 16 L st h = (P 17 L (.int (Int32.ofInt (2)) :: st) h) := rfl
theorem e225_17 : exq sa F N S rt cd225 P Q 17 L st h = (tI st fun b s => tI s fun a s => P 18 L (.int (a.toUInt32 >>> (b.toUInt32 &&& Int32.toUInt32 31)).toInt32 :: s) h) := rfl
theorem e225_18 : exq sa F N S rt cd225 P Q 18 L st h = (P 21 L (.int (Int32.ofInt (858993459)) :: st) h) := rfl
theorem e225_21 : exq sa F N S rt cd225 P Q 21 L st h = (tI st fun b s => tI s fun a s => P 22 L (.int (a &&& b) :: s) h) := rfl
theorem e225_22 : exq sa F N S rt cd225 P Q 22 L st h = (tI st fun b s => tI s fun a s => P 23 L (.int (a + b) :: s) h) := rfl
theorem e225_23 : exq sa F N S rt cd225 P Q 23 L st h = (tI st fun v s => lvS L 0 (.int v) fun L' => P 24 L' s h) := rfl
theorem e225_24 : exq sa F N S rt cd225 P Q 24 L st h = (ldI L 0 fun v => P 25 L (.int v :: st) h) := rfl
theorem e225_25 : exq sa F N S rt cd225 P Q 25 L st h = (ldI L 0 fun v => P 26 L (.int v :: st) h) := rfl
theorem e225_26 : exq sa F N S rt cd225 P Q 26 L st h = (P 27 L (.int (Int32.ofInt (4)) :: st) h) := rfl
theorem e225_27 : exq sa F N S rt cd225 P Q 27 L st h = (tI st fun b s => tI s fun a s => P 28 L (.int (a.toUInt32 >>> (b.toUInt32 &&& Int32.toUInt32 31)).toInt32 :: s) h) := rfl
theorem e225_28 : exq sa F N S rt cd225 P Q 28 L st h = (tI st fun b s => tI s fun a s => P 29 L (.int (a + b) :: s) h) := rfl
theorem e225_29 : exq sa F N S rt cd225 P Q 29 L st h = (P 32 L (.int (Int32.ofInt (252645135)) :: st) h) := rfl
theorem e225_32 : exq sa F N S rt cd225 P Q 32 L st h = (tI st fun b s => tI s fun a s => P 33 L (.int (a &&& b) :: s) h) := rfl
theorem e225_33 : exq sa F N S rt cd225 P Q 33 L st h = (tI st fun v s => lvS L 0 (.int v) fun L' => P 34 L' s h) := rfl
theorem e225_34 : exq sa F N S rt cd225 P Q 34 L st h = (ldI L 0 fun v => P 35 L (.int v :: st) h) := rfl
theorem e225_35 : exq sa F N S rt cd225 P Q 35 L st h = (ldI L 0 fun v => P 36 L (.int v :: st) h) := rfl
theorem e225_36 : exq sa F N S rt cd225 P Q 36 L st h = (P 38 L (.int (Int32.ofInt (8)) :: st) h) := rfl
theorem e225_38 : exq sa F N S rt cd225 P Q 38 L st h = (tI st fun b s => tI s fun a s => P 39 L (.int (a.toUInt32 >>> (b.toUInt32 &&& Int32.toUInt32 31)).toInt32 :: s) h) := rfl
theorem e225_39 : exq sa F N S rt cd225 P Q 39 L st h = (tI st fun b s => tI s fun a s => P 40 L (.int (a + b) :: s) h) := rfl
theorem e225_40 : exq sa F N S rt cd225 P Q 40 L st h = (tI st fun v s => lvS L 0 (.int v) fun L' => P 41 L' s h) := rfl
theorem e225_41 : exq sa F N S rt cd225 P Q 41 L st h = (ldI L 0 fun v => P 42 L (.int v :: st) h) := rfl
theorem e225_42 : exq sa F N S rt cd225 P Q 42 L st h = (ldI L 0 fun v => P 43 L (.int v :: st) h) := rfl
theorem e225_43 : exq sa F N S rt cd225 P Q 43 L st h = (P 45 L (.int (Int32.ofInt (16)) :: st) h) := rfl
theorem e225_45 : exq sa F N S rt cd225 P Q 45 L st h = (tI st fun b s => tI s fun a s => P 46 L (.int (a.toUInt32 >>> (b.toUInt32 &&& Int32.toUInt32 31)).toInt32 :: s) h) := rfl
theorem e225_46 : exq sa F N S rt cd225 P Q 46 L st h = (tI st fun b s => tI s fun a s => P 47 L (.int (a + b) :: s) h) := rfl
theorem e225_47 : exq sa F N S rt cd225 P Q 47 L st h = (tI st fun v s => lvS L 0 (.int v) fun L' => P 48 L' s h) := rfl
theorem e225_48 : exq sa F N S rt cd225 P Q 48 L st h = (ldI L 0 fun v => P 49 L (.int v :: st) h) := rfl
theorem e225_49 : exq sa F N S rt cd225 P Q 49 L st h = (P 51 L (.int (Int32.ofInt (63)) :: st) h) := rfl
theorem e225_51 : exq sa F N S rt cd225 P Q 51 L st h = (tI st fun b s => tI s fun a s => P 52 L (.int (a &&& b) :: s) h) := rfl
theorem e225_52 : exq sa F N S rt cd225 P Q 52 L st h = (tI st fun v s => s = [] ∧ (rt = some .int ∨ (rt = some .boolean ∧ (v = 0 ∨ v = 1))) ∧ Q (some (.int v)) h) := rfl
theorem e226_0 : exq sa F N S rt cd226 P Q 0 L st h = (ex1 sa F N S rt P Q 0 L st h (.new 7) 6 9 0 0) := rfl
theorem e226_3 : exq sa F N S rt cd226 P Q 3 L st h = (ex1 sa F N S rt P Q 3 L st h (.dup) 0 0 0 0) := rfl
theorem e226_4 : exq sa F N S rt cd226 P Q 4 L st h = (ex1 sa F N S rt P Q 4 L st h (.invokespecial 9) 2 90 1 6) := rfl
theorem e226_7 : exq sa F N S rt cd226 P Q 7 L st h = (tR st fun v s => lvS L 1 (.ref v) fun L' => P 8 L' s h) := rfl
theorem e226_8 : exq sa F N S rt cd226 P Q 8 L st h = (ex1 sa F N S rt P Q 8 L st h (.new 10) 7 29 0 0) := rfl
theorem e226_11 : exq sa F N S rt cd226 P Q 11 L st h = (ex1 sa F N S rt P Q 11 L st h (.dup) 0 0 0 0) := rfl
theorem e226_12 : exq sa F N S rt cd226 P Q 12 L st h = (ex1 sa F N S rt P Q 12 L st h (.invokespecial 12) 2 134 1 7) := rfl
theorem e226_15 : exq sa F N S rt cd226 P Q 15 L st h = (tR st fun v s => lvS L 2 (.ref v) fun L' => P 16 L' s h) := rfl
theorem e226_16 : exq sa F N S rt cd226 P Q 16 L st h = (P 17 L (.int (Int32.ofInt (0)) :: st) h) := rfl
theorem e226_17 : exq sa F N S rt cd226 P Q 17 L st h = (tI st fun v s => lvS L 3 (.int v) fun L' => P 18 L' s h) := rfl
theorem e226_18 : exq sa F N S rt cd226 P Q 18 L st h = (ldI L 3 fun v => P 19 L (.int v :: st) h) := rfl
theorem e226_19 : exq sa F N S rt cd226 P Q 19 L st h = (ldR L 0 fun v => P 20 L (v :: st) h) := rfl
theorem e226_20 : exq sa F N S rt cd226 P Q 20 L st h = (ex1 sa F N S rt P Q 20 L st h (.arraylength) 0 0 0 0) := rfl
theorem e226_21 : exq sa F N S rt cd226 P Q 21 L st h = (P 23 L (.int (Int32.ofInt (7)) :: st) h) := rfl
theorem e226_23 : exq sa F N S rt cd226 P Q 23 L st h = (tI st fun b s => tI s fun a s => P 24 L (.int (a - b) :: s) h) := rfl
theorem e226_24 : exq sa F N S rt cd226 P Q 24 L st h = (tI st fun b s => tI s fun a s => br (b < a) (P 1435 L s h) (P 27 L s h)) := rfl
theorem e226_27 : exq sa F N S rt cd226 P Q 27 L st h = (ldR L 0 fun v => P 28 L (v :: st) h) := rfl
theorem e226_28 : exq sa F N S rt cd226 P Q 28 L st h = (ldI L 3 fun v => P 29 L (.int v :: st) h) := rfl
theorem e226_29 : exq sa F N S rt cd226 P Q 29 L st h = (ex1 sa F N S rt P Q 29 L st h (.iaload) 0 0 0 0) := rfl
theorem e226_30 : exq sa F N S rt cd226 P Q 30 L st h = (P 32 L (.int (Int32.ofInt (63)) :: st) h) := rfl
theorem e226_32 : exq sa F N S rt cd226 P Q 32 L st h = (tI st fun b s => tI s fun a s => P 33 L (.int (a &&& b) :: s) h) := rfl
theorem e226_33 : exq sa F N S rt cd226 P Q 33 L st h = (ex1 sa F N S rt P Q 33 L st h (.tableswitch 1396 0 37 #[167, 210, 253, 316, 339, 362, 375, 388, 401, 424, 447, 470, 503, 536, 569, 602, 625, 668, 701, 724, 747, 770, 803, 846, 889, 922, 955, 1030, 1105, 1159, 1202, 1225, 1248, 1271, 1304, 1337, 1360, 1383]) 0 0 0 0) := rfl
theorem e226_200 : exq sa F N S rt cd226 P Q 200 L st h = (ldR L 1 fun v => P 201 L (v :: st) h) := rfl
theorem e226_201 : exq sa F N S rt cd226 P Q 201 L st h = (ldR L 0 fun v => P 202 L (v :: st) h) := rfl
theorem e226_202 : exq sa F N S rt cd226 P Q 202 L st h = (ldI L 3 fun v => P 203 L (.int v :: st) h) := rfl
theorem e226_203 : exq sa F N S rt cd226 P Q 203 L st h = (P 204 L (.int (Int32.ofInt (1)) :: st) h) := rfl
theorem e226_204 : exq sa F N S rt cd226 P Q 204 L st h = (tI st fun b s => tI s fun a s => P 205 L (.int (a + b) :: s) h) := rfl
theorem e226_205 : exq sa F N S rt cd226 P Q 205 L st h = (ex1 sa F N S rt P Q 205 L st h (.iaload) 0 0 0 0) := rfl
theorem e226_206 : exq sa F N S rt cd226 P Q 206 L st h = (ldR L 0 fun v => P 207 L (v :: st) h) := rfl
theorem e226_207 : exq sa F N S rt cd226 P Q 207 L st h = (ldI L 3 fun v => P 208 L (.int v :: st) h) := rfl
theorem e226_208 : exq sa F N S rt cd226 P Q 208 L st h = (P 209 L (.int (Int32.ofInt (2)) :: st) h) := rfl
theorem e226_209 : exq sa F N S rt cd226 P Q 209 L st h = (tI st fun b s => tI s fun a s => P 210 L (.int (a + b) :: s) h) := rfl
theorem e226_210 : exq sa F N S rt cd226 P Q 210 L st h = (ex1 sa F N S rt P Q 210 L st h (.iaload) 0 0 0 0) := rfl
theorem e226_211 : exq sa F N S rt cd226 P Q 211 L st h = (ldR L 0 fun v => P 212 L (v :: st) h) := rfl
theorem e226_212 : exq sa F N S rt cd226 P Q 212 L st h = (ldI L 3 fun v => P 213 L (.int v :: st) h) := rfl
theorem e226_213 : exq sa F N S rt cd226 P Q 213 L st h = (P 214 L (.int (Int32.ofInt (3)) :: st) h) := rfl
theorem e226_214 : exq sa F N S rt cd226 P Q 214 L st h = (tI st fun b s => tI s fun a s => P 215 L (.int (a + b) :: s) h) := rfl
theorem e226_215 : exq sa F N S rt cd226 P Q 215 L st h = (ex1 sa F N S rt P Q 215 L st h (.iaload) 0 0 0 0) := rfl
theorem e226_216 : exq sa F N S rt cd226 P Q 216 L st h = (ex1 sa F N S rt P Q 216 L st h (.invokevirtual 13) 0 91 4 6) := rfl
theorem e226_219 : exq sa F N S rt cd226 P Q 219 L st h = (ldR L 2 fun v => P 220 L (v :: st) h) := rfl
theorem e226_220 : exq sa F N S rt cd226 P Q 220 L st h = (ldR L 0 fun v => P 221 L (v :: st) h) := rfl
theorem e226_221 : exq sa F N S rt cd226 P Q 221 L st h = (ldI L 3 fun v => P 222 L (.int v :: st) h) := rfl
theorem e226_222 : exq sa F N S rt cd226 P Q 222 L st h = (P 223 L (.int (Int32.ofInt (1)) :: st) h) := rfl
theorem e226_223 : exq sa F N S rt cd226 P Q 223 L st h = (tI st fun b s => tI s fun a s => P 224 L (.int (a + b) :: s) h) := rfl
theorem e226_224 : exq sa F N S rt cd226 P Q 224 L st h = (ex1 sa F N S rt P Q 224 L st h (.iaload) 0 0 0 0) := rfl
theorem e226_225 : exq sa F N S rt cd226 P Q 225 L st h = (ldR L 0 fun v => P 226 L (v :: st) h) := rfl
theorem e226_226 : exq sa F N S rt cd226 P Q 226 L st h = (ldI L 3 fun v => P 227 L (.int v :: st) h) := rfl
theorem e226_227 : exq sa F N S rt cd226 P Q 227 L st h = (P 228 L (.int (Int32.ofInt (2)) :: st) h) := rfl
theorem e226_228 : exq sa F N S rt cd226 P Q 228 L st h = (tI st fun b s => tI s fun a s => P 229 L (.int (a + b) :: s) h) := rfl
theorem e226_229 : exq sa F N S rt cd226 P Q 229 L st h = (ex1 sa F N S rt P Q 229 L st h (.iaload) 0 0 0 0) := rfl
theorem e226_230 : exq sa F N S rt cd226 P Q 230 L st h = (ldR L 0 fun v => P 231 L (v :: st) h) := rfl
theorem e226_231 : exq sa F N S rt cd226 P Q 231 L st h = (ldI L 3 fun v => P 232 L (.int v :: st) h) := rfl
theorem e226_232 : exq sa F N S rt cd226 P Q 232 L st h = (P 233 L (.int (Int32.ofInt (3)) :: st) h) := rfl
theorem e226_233 : exq sa F N S rt cd226 P Q 233 L st h = (tI st fun b s => tI s fun a s => P 234 L (.int (a + b) :: s) h) := rfl
theorem e226_234 : exq sa F N S rt cd226 P Q 234 L st h = (ex1 sa F N S rt P Q 234 L st h (.iaload) 0 0 0 0) := rfl
theorem e226_235 : exq sa F N S rt cd226 P Q 235 L st h = (ex1 sa F N S rt P Q 235 L st h (.invokevirtual 17) 0 144 4 7) := rfl
theorem e226_238 : exq sa F N S rt cd226 P Q 238 L st h = (tI st fun b s => tI s fun a s => br (a = b) (P 1429 L s h) (P 241 L s h)) := rfl
theorem e226_241 : exq sa F N S rt cd226 P Q 241 L st h = (P 242 L (.int (Int32.ofInt (0)) :: st) h) := rfl
theorem e226_242 : exq sa F N S rt cd226 P Q 242 L st h = (tI st fun v s => s = [] ∧ (rt = some .int ∨ (rt = some .boolean ∧ (v = 0 ∨ v = 1))) ∧ Q (some (.int v)) h) := rfl
theorem e226_243 : exq sa F N S rt cd226 P Q 243 L st h = (ldR L 1 fun v => P 244 L (v :: st) h) := rfl
theorem e226_244 : exq sa F N S rt cd226 P Q 244 L st h = (ldR L 0 fun v => P 245 L (v :: st) h) := rfl
theorem e226_245 : exq sa F N S rt cd226 P Q 245 L st h = (ldI L 3 fun v => P 246 L (.int v :: st) h) := rfl
theorem e226_246 : exq sa F N S rt cd226 P Q 246 L st h = (P 247 L (.int (Int32.ofInt (1)) :: st) h) := rfl
theorem e226_247 : exq sa F N S rt cd226 P Q 247 L st h = (tI st fun b s => tI s fun a s => P 248 L (.int (a + b) :: s) h) := rfl
theorem e226_248 : exq sa F N S rt cd226 P Q 248 L st h = (ex1 sa F N S rt P Q 248 L st h (.iaload) 0 0 0 0) := rfl
theorem e226_249 : exq sa F N S rt cd226 P Q 249 L st h = (ldR L 0 fun v => P 250 L (v :: st) h) := rfl
theorem e226_250 : exq sa F N S rt cd226 P Q 250 L st h = (ldI L 3 fun v => P 251 L (.int v :: st) h) := rfl
theorem e226_251 : exq sa F N S rt cd226 P Q 251 L st h = (P 252 L (.int (Int32.ofInt (2)) :: st) h) := rfl
theorem e226_252 : exq sa F N S rt cd226 P Q 252 L st h = (tI st fun b s => tI s fun a s => P 253 L (.int (a + b) :: s) h) := rfl
theorem e226_253 : exq sa F N S rt cd226 P Q 253 L st h = (ex1 sa F N S rt P Q 253 L st h (.iaload) 0 0 0 0) := rfl
theorem e226_254 : exq sa F N S rt cd226 P Q 254 L st h = (ldR L 0 fun v => P 255 L (v :: st) h) := rfl
theorem e226_255 : exq sa F N S rt cd226 P Q 255 L st h = (ldI L 3 fun v => P 256 L (.int v :: st) h) := rfl
theorem e226_256 : exq sa F N S rt cd226 P Q 256 L st h = (P 257 L (.int (Int32.ofInt (3)) :: st) h) := rfl
theorem e226_257 : exq sa F N S rt cd226 P Q 257 L st h = (tI st fun b s => tI s fun a s => P 258 L (.int (a + b) :: s) h) := rfl
theorem e226_258 : exq sa F N S rt cd226 P Q 258 L st h = (ex1 sa F N S rt P Q 258 L st h (.iaload) 0 0 0 0) := rfl
theorem e226_259 : exq sa F N S rt cd226 P Q 259 L st h = (ex1 sa F N S rt P Q 259 L st h (.invokevirtual 18) 0 92 4 6) := rfl
theorem e226_262 : exq sa F N S rt cd226 P Q 262 L st h = (ldR L 2 fun v => P 263 L (v :: st) h) := rfl
theorem e226_263 : exq sa F N S rt cd226 P Q 263 L st h = (ldR L 0 fun v => P 264 L (v :: st) h) := rfl
theorem e226_264 : exq sa F N S rt cd226 P Q 264 L st h = (ldI L 3 fun v => P 265 L (.int v :: st) h) := rfl
theorem e226_265 : exq sa F N S rt cd226 P Q 265 L st h = (P 266 L (.int (Int32.ofInt (1)) :: st) h) := rfl
theorem e226_266 : exq sa F N S rt cd226 P Q 266 L st h = (tI st fun b s => tI s fun a s => P 267 L (.int (a + b) :: s) h) := rfl
theorem e226_267 : exq sa F N S rt cd226 P Q 267 L st h = (ex1 sa F N S rt P Q 267 L st h (.iaload) 0 0 0 0) := rfl
theorem e226_268 : exq sa F N S rt cd226 P Q 268 L st h = (ldR L 0 fun v => P 269 L (v :: st) h) := rfl
theorem e226_269 : exq sa F N S rt cd226 P Q 269 L st h = (ldI L 3 fun v => P 270 L (.int v :: st) h) := rfl
theorem e226_270 : exq sa F N S rt cd226 P Q 270 L st h = (P 271 L (.int (Int32.ofInt (2)) :: st) h) := rfl
theorem e226_271 : exq sa F N S rt cd226 P Q 271 L st h = (tI st fun b s => tI s fun a s => P 272 L (.int (a + b) :: s) h) := rfl
theorem e226_272 : exq sa F N S rt cd226 P Q 272 L st h = (ex1 sa F N S rt P Q 272 L st h (.iaload) 0 0 0 0) := rfl
theorem e226_273 : exq sa F N S rt cd226 P Q 273 L st h = (ldR L 0 fun v => P 274 L (v :: st) h) := rfl
theorem e226_274 : exq sa F N S rt cd226 P Q 274 L st h = (ldI L 3 fun v => P 275 L (.int v :: st) h) := rfl
theorem e226_275 : exq sa F N S rt cd226 P Q 275 L st h = (P 276 L (.int (Int32.ofInt (3)) :: st) h) := rfl
theorem e226_276 : exq sa F N S rt cd226 P Q 276 L st h = (tI st fun b s => tI s fun a s => P 277 L (.int (a + b) :: s) h) := rfl
theorem e226_277 : exq sa F N S rt cd226 P Q 277 L st h = (ex1 sa F N S rt P Q 277 L st h (.iaload) 0 0 0 0) := rfl
theorem e226_278 : exq sa F N S rt cd226 P Q 278 L st h = (ex1 sa F N S rt P Q 278 L st h (.invokevirtual 21) 0 145 4 7) := rfl
theorem e226_281 : exq sa F N S rt cd226 P Q 281 L st h = (tI st fun b s => tI s fun a s => br (a = b) (P 1429 L s h) (P 284 L s h)) := rfl
theorem e226_284 : exq sa F N S rt cd226 P Q 284 L st h = (P 285 L (.int (Int32.ofInt (0)) :: st) h) := rfl
theorem e226_285 : exq sa F N S rt cd226 P Q 285 L st h = (tI st fun v s => s = [] ∧ (rt = some .int ∨ (rt = some .boolean ∧ (v = 0 ∨ v = 1))) ∧ Q (some (.int v)) h) := rfl
theorem e226_286 : exq sa F N S rt cd226 P Q 286 L st h = (ldR L 1 fun v => P 287 L (v :: st) h) := rfl
theorem e226_287 : exq sa F N S rt cd226 P Q 287 L st h = (ldR L 0 fun v => P 288 L (v :: st) h) := rfl
theorem e226_288 : exq sa F N S rt cd226 P Q 288 L st h = (ldI L 3 fun v => P 289 L (.int v :: st) h) := rfl
theorem e226_289 : exq sa F N S rt cd226 P Q 289 L st h = (P 290 L (.int (Int32.ofInt (1)) :: st) h) := rfl
theorem e226_290 : exq sa F N S rt cd226 P Q 290 L st h = (tI st fun b s => tI s fun a s => P 291 L (.int (a + b) :: s) h) := rfl
theorem e226_291 : exq sa F N S rt cd226 P Q 291 L st h = (ex1 sa F N S rt P Q 291 L st h (.iaload) 0 0 0 0) := rfl
theorem e226_292 : exq sa F N S rt cd226 P Q 292 L st h = (ldR L 0 fun v => P 293 L (v :: st) h) := rfl
theorem e226_293 : exq sa F N S rt cd226 P Q 293 L st h = (ldI L 3 fun v => P 294 L (.int v :: st) h) := rfl
theorem e226_294 : exq sa F N S rt cd226 P Q 294 L st h = (P 295 L (.int (Int32.ofInt (2)) :: st) h) := rfl
theorem e226_295 : exq sa F N S rt cd226 P Q 295 L st h = (tI st fun b s => tI s fun a s => P 296 L (.int (a + b) :: s) h) := rfl
theorem e226_296 : exq sa F N S rt cd226 P Q 296 L st h = (ex1 sa F N S rt P Q 296 L st h (.iaload) 0 0 0 0) := rfl
theorem e226_297 : exq sa F N S rt cd226 P Q 297 L st h = (ldR L 0 fun v => P 298 L (v :: st) h) := rfl
theorem e226_298 : exq sa F N S rt cd226 P Q 298 L st h = (ldI L 3 fun v => P 299 L (.int v :: st) h) := rfl
theorem e226_299 : exq sa F N S rt cd226 P Q 299 L st h = (P 300 L (.int (Int32.ofInt (3)) :: st) h) := rfl
theorem e226_300 : exq sa F N S rt cd226 P Q 300 L st h = (tI st fun b s => tI s fun a s => P 301 L (.int (a + b) :: s) h) := rfl
theorem e226_301 : exq sa F N S rt cd226 P Q 301 L st h = (ex1 sa F N S rt P Q 301 L st h (.iaload) 0 0 0 0) := rfl
theorem e226_302 : exq sa F N S rt cd226 P Q 302 L st h = (ldR L 0 fun v => P 303 L (v :: st) h) := rfl
theorem e226_303 : exq sa F N S rt cd226 P Q 303 L st h = (ldI L 3 fun v => P 304 L (.int v :: st) h) := rfl
theorem e226_304 : exq sa F N S rt cd226 P Q 304 L st h = (P 305 L (.int (Int32.ofInt (4)) :: st) h) := rfl
theorem e226_305 : exq sa F N S rt cd226 P Q 305 L st h = (tI st fun b s => tI s fun a s => P 306 L (.int (a + b) :: s) h) := rfl
theorem e226_306 : exq sa F N S rt cd226 P Q 306 L st h = (ex1 sa F N S rt P Q 306 L st h (.iaload) 0 0 0 0) := rfl
theorem e226_307 : exq sa F N S rt cd226 P Q 307 L st h = (ldR L 0 fun v => P 308 L (v :: st) h) := rfl
theorem e226_308 : exq sa F N S rt cd226 P Q 308 L st h = (ldI L 3 fun v => P 309 L (.int v :: st) h) := rfl
theorem e226_309 : exq sa F N S rt cd226 P Q 309 L st h = (P 310 L (.int (Int32.ofInt (5)) :: st) h) := rfl
theorem e226_310 : exq sa F N S rt cd226 P Q 310 L st h = (tI st fun b s => tI s fun a s => P 311 L (.int (a + b) :: s) h) := rfl
theorem e226_311 : exq sa F N S rt cd226 P Q 311 L st h = (ex1 sa F N S rt P Q 311 L st h (.iaload) 0 0 0 0) := rfl
theorem e226_312 : exq sa F N S rt cd226 P Q 312 L st h = (ex1 sa F N S rt P Q 312 L st h (.invokevirtual 22) 0 93 6 6) := rfl
theorem e226_315 : exq sa F N S rt cd226 P Q 315 L st h = (ldR L 2 fun v => P 316 L (v :: st) h) := rfl
theorem e226_316 : exq sa F N S rt cd226 P Q 316 L st h = (ldR L 0 fun v => P 317 L (v :: st) h) := rfl
theorem e226_317 : exq sa F N S rt cd226 P Q 317 L st h = (ldI L 3 fun v => P 318 L (.int v :: st) h) := rfl
theorem e226_318 : exq sa F N S rt cd226 P Q 318 L st h = (P 319 L (.int (Int32.ofInt (1)) :: st) h) := rfl
theorem e226_319 : exq sa F N S rt cd226 P Q 319 L st h = (tI st fun b s => tI s fun a s => P 320 L (.int (a + b) :: s) h) := rfl
theorem e226_320 : exq sa F N S rt cd226 P Q 320 L st h = (ex1 sa F N S rt P Q 320 L st h (.iaload) 0 0 0 0) := rfl
theorem e226_321 : exq sa F N S rt cd226 P Q 321 L st h = (ldR L 0 fun v => P 322 L (v :: st) h) := rfl
theorem e226_322 : exq sa F N S rt cd226 P Q 322 L st h = (ldI L 3 fun v => P 323 L (.int v :: st) h) := rfl
theorem e226_323 : exq sa F N S rt cd226 P Q 323 L st h = (P 324 L (.int (Int32.ofInt (2)) :: st) h) := rfl
theorem e226_324 : exq sa F N S rt cd226 P Q 324 L st h = (tI st fun b s => tI s fun a s => P 325 L (.int (a + b) :: s) h) := rfl
theorem e226_325 : exq sa F N S rt cd226 P Q 325 L st h = (ex1 sa F N S rt P Q 325 L st h (.iaload) 0 0 0 0) := rfl
theorem e226_326 : exq sa F N S rt cd226 P Q 326 L st h = (ldR L 0 fun v => P 327 L (v :: st) h) := rfl
theorem e226_327 : exq sa F N S rt cd226 P Q 327 L st h = (ldI L 3 fun v => P 328 L (.int v :: st) h) := rfl
theorem e226_328 : exq sa F N S rt cd226 P Q 328 L st h = (P 329 L (.int (Int32.ofInt (3)) :: st) h) := rfl
theorem e226_329 : exq sa F N S rt cd226 P Q 329 L st h = (tI st fun b s => tI s fun a s => P 330 L (.int (a + b) :: s) h) := rfl
theorem e226_330 : exq sa F N S rt cd226 P Q 330 L st h = (ex1 sa F N S rt P Q 330 L st h (.iaload) 0 0 0 0) := rfl
theorem e226_331 : exq sa F N S rt cd226 P Q 331 L st h = (ldR L 0 fun v => P 332 L (v :: st) h) := rfl
theorem e226_332 : exq sa F N S rt cd226 P Q 332 L st h = (ldI L 3 fun v => P 333 L (.int v :: st) h) := rfl
theorem e226_333 : exq sa F N S rt cd226 P Q 333 L st h = (P 334 L (.int (Int32.ofInt (4)) :: st) h) := rfl
theorem e226_334 : exq sa F N S rt cd226 P Q 334 L st h = (tI st fun b s => tI s fun a s => P 335 L (.int (a + b) :: s) h) := rfl
theorem e226_335 : exq sa F N S rt cd226 P Q 335 L st h = (ex1 sa F N S rt P Q 335 L st h (.iaload) 0 0 0 0) := rfl
theorem e226_336 : exq sa F N S rt cd226 P Q 336 L st h = (ldR L 0 fun v => P 337 L (v :: st) h) := rfl
theorem e226_337 : exq sa F N S rt cd226 P Q 337 L st h = (ldI L 3 fun v => P 338 L (.int v :: st) h) := rfl
theorem e226_338 : exq sa F N S rt cd226 P Q 338 L st h = (P 339 L (.int (Int32.ofInt (5)) :: st) h) := rfl
theorem e226_339 : exq sa F N S rt cd226 P Q 339 L st h = (tI st fun b s => tI s fun a s => P 340 L (.int (a + b) :: s) h) := rfl
theorem e226_340 : exq sa F N S rt cd226 P Q 340 L st h = (ex1 sa F N S rt P Q 340 L st h (.iaload) 0 0 0 0) := rfl
theorem e226_341 : exq sa F N S rt cd226 P Q 341 L st h = (ex1 sa F N S rt P Q 341 L st h (.invokevirtual 26) 0 146 6 7) := rfl
theorem e226_344 : exq sa F N S rt cd226 P Q 344 L st h = (tI st fun b s => tI s fun a s => br (a = b) (P 1429 L s h) (P 347 L s h)) := rfl
theorem e226_347 : exq sa F N S rt cd226 P Q 347 L st h = (P 348 L (.int (Int32.ofInt (0)) :: st) h) := rfl
theorem e226_348 : exq sa F N S rt cd226 P Q 348 L st h = (tI st fun v s => s = [] ∧ (rt = some .int ∨ (rt = some .boolean ∧ (v = 0 ∨ v = 1))) ∧ Q (some (.int v)) h) := rfl
theorem e226_349 : exq sa F N S rt cd226 P Q 349 L st h = (ldR L 1 fun v => P 350 L (v :: st) h) := rfl
theorem e226_350 : exq sa F N S rt cd226 P Q 350 L st h = (ldR L 0 fun v => P 351 L (v :: st) h) := rfl
theorem e226_351 : exq sa F N S rt cd226 P Q 351 L st h = (ldI L 3 fun v => P 352 L (.int v :: st) h) := rfl
theorem e226_352 : exq sa F N S rt cd226 P Q 352 L st h = (P 353 L (.int (Int32.ofInt (1)) :: st) h) := rfl
theorem e226_353 : exq sa F N S rt cd226 P Q 353 L st h = (tI st fun b s => tI s fun a s => P 354 L (.int (a + b) :: s) h) := rfl
theorem e226_354 : exq sa F N S rt cd226 P Q 354 L st h = (ex1 sa F N S rt P Q 354 L st h (.iaload) 0 0 0 0) := rfl
theorem e226_355 : exq sa F N S rt cd226 P Q 355 L st h = (ex1 sa F N S rt P Q 355 L st h (.invokevirtual 27) 0 94 2 6) := rfl
theorem e226_358 : exq sa F N S rt cd226 P Q 358 L st h = (ldR L 2 fun v => P 359 L (v :: st) h) := rfl
theorem e226_359 : exq sa F N S rt cd226 P Q 359 L st h = (ldR L 0 fun v => P 360 L (v :: st) h) := rfl
theorem e226_360 : exq sa F N S rt cd226 P Q 360 L st h = (ldI L 3 fun v => P 361 L (.int v :: st) h) := rfl
theorem e226_361 : exq sa F N S rt cd226 P Q 361 L st h = (P 362 L (.int (Int32.ofInt (1)) :: st) h) := rfl
theorem e226_362 : exq sa F N S rt cd226 P Q 362 L st h = (tI st fun b s => tI s fun a s => P 363 L (.int (a + b) :: s) h) := rfl
theorem e226_363 : exq sa F N S rt cd226 P Q 363 L st h = (ex1 sa F N S rt P Q 363 L st h (.iaload) 0 0 0 0) := rfl
theorem e226_364 : exq sa F N S rt cd226 P Q 364 L st h = (ex1 sa F N S rt P Q 364 L st h (.invokevirtual 31) 0 147 2 7) := rfl
theorem e226_367 : exq sa F N S rt cd226 P Q 367 L st h = (tI st fun b s => tI s fun a s => br (a = b) (P 1429 L s h) (P 370 L s h)) := rfl
theorem e226_370 : exq sa F N S rt cd226 P Q 370 L st h = (P 371 L (.int (Int32.ofInt (0)) :: st) h) := rfl
theorem e226_371 : exq sa F N S rt cd226 P Q 371 L st h = (tI st fun v s => s = [] ∧ (rt = some .int ∨ (rt = some .boolean ∧ (v = 0 ∨ v = 1))) ∧ Q (some (.int v)) h) := rfl
theorem e226_372 : exq sa F N S rt cd226 P Q 372 L st h = (ldR L 1 fun v => P 373 L (v :: st) h) := rfl
theorem e226_373 : exq sa F N S rt cd226 P Q 373 L st h = (ldR L 0 fun v => P 374 L (v :: st) h) := rfl
theorem e226_374 : exq sa F N S rt cd226 P Q 374 L st h = (ldI L 3 fun v => P 375 L (.int v :: st) h) := rfl
theorem e226_375 : exq sa F N S rt cd226 P Q 375 L st h = (P 376 L (.int (Int32.ofInt (1)) :: st) h) := rfl
theorem e226_376 : exq sa F N S rt cd226 P Q 376 L st h = (tI st fun b s => tI s fun a s => P 377 L (.int (a + b) :: s) h) := rfl
theorem e226_377 : exq sa F N S rt cd226 P Q 377 L st h = (ex1 sa F N S rt P Q 377 L st h (.iaload) 0 0 0 0) := rfl
theorem e226_378 : exq sa F N S rt cd226 P Q 378 L st h = (ex1 sa F N S rt P Q 378 L st h (.invokevirtual 32) 0 95 2 6) := rfl
theorem e226_381 : exq sa F N S rt cd226 P Q 381 L st h = (ldR L 2 fun v => P 382 L (v :: st) h) := rfl
theorem e226_382 : exq sa F N S rt cd226 P Q 382 L st h = (ldR L 0 fun v => P 383 L (v :: st) h) := rfl
theorem e226_383 : exq sa F N S rt cd226 P Q 383 L st h = (ldI L 3 fun v => P 384 L (.int v :: st) h) := rfl
theorem e226_384 : exq sa F N S rt cd226 P Q 384 L st h = (P 385 L (.int (Int32.ofInt (1)) :: st) h) := rfl
theorem e226_385 : exq sa F N S rt cd226 P Q 385 L st h = (tI st fun b s => tI s fun a s => P 386 L (.int (a + b) :: s) h) := rfl
theorem e226_386 : exq sa F N S rt cd226 P Q 386 L st h = (ex1 sa F N S rt P Q 386 L st h (.iaload) 0 0 0 0) := rfl
theorem e226_387 : exq sa F N S rt cd226 P Q 387 L st h = (ex1 sa F N S rt P Q 387 L st h (.invokevirtual 35) 0 148 2 7) := rfl
theorem e226_390 : exq sa F N S rt cd226 P Q 390 L st h = (tI st fun b s => tI s fun a s => br (a = b) (P 1429 L s h) (P 393 L s h)) := rfl
theorem e226_393 : exq sa F N S rt cd226 P Q 393 L st h = (P 394 L (.int (Int32.ofInt (0)) :: st) h) := rfl
theorem e226_394 : exq sa F N S rt cd226 P Q 394 L st h = (tI st fun v s => s = [] ∧ (rt = some .int ∨ (rt = some .boolean ∧ (v = 0 ∨ v = 1))) ∧ Q (some (.int v)) h) := rfl
theorem e226_395 : exq sa F N S rt cd226 P Q 395 L st h = (ldR L 1 fun v => P 396 L (v :: st) h) := rfl
theorem e226_396 : exq sa F N S rt cd226 P Q 396 L st h = (ex1 sa F N S rt P Q 396 L st h (.invokevirtual 36) 0 96 1 6) := rfl
theorem e226_399 : exq sa F N S rt cd226 P Q 399 L st h = (ldR L 2 fun v => P 400 L (v :: st) h) := rfl
theorem e226_400 : exq sa F N S rt cd226 P Q 400 L st h = (ex1 sa F N S rt P Q 400 L st h (.invokevirtual 40) 0 160 1 7) := rfl
theorem e226_403 : exq sa F N S rt cd226 P Q 403 L st h = (tI st fun b s => tI s fun a s => br (a = b) (P 1429 L s h) (P 406 L s h)) := rfl
theorem e226_406 : exq sa F N S rt cd226 P Q 406 L st h = (P 407 L (.int (Int32.ofInt (0)) :: st) h) := rfl
theorem e226_407 : exq sa F N S rt cd226 P Q 407 L st h = (tI st fun v s => s = [] ∧ (rt = some .int ∨ (rt = some .boolean ∧ (v = 0 ∨ v = 1))) ∧ Q (some (.int v)) h) := rfl
theorem e226_408 : exq sa F N S rt cd226 P Q 408 L st h = (ldR L 1 fun v => P 409 L (v :: st) h) := rfl
theorem e226_409 : exq sa F N S rt cd226 P Q 409 L st h = (ex1 sa F N S rt P Q 409 L st h (.invokevirtual 41) 0 97 1 6) := rfl
theorem e226_412 : exq sa F N S rt cd226 P Q 412 L st h = (ldR L 2 fun v => P 413 L (v :: st) h) := rfl
theorem e226_413 : exq sa F N S rt cd226 P Q 413 L st h = (ex1 sa F N S rt P Q 413 L st h (.invokevirtual 44) 0 161 1 7) := rfl
theorem e226_416 : exq sa F N S rt cd226 P Q 416 L st h = (tI st fun b s => tI s fun a s => br (a = b) (P 1429 L s h) (P 419 L s h)) := rfl
theorem e226_419 : exq sa F N S rt cd226 P Q 419 L st h = (P 420 L (.int (Int32.ofInt (0)) :: st) h) := rfl
theorem e226_420 : exq sa F N S rt cd226 P Q 420 L st h = (tI st fun v s => s = [] ∧ (rt = some .int ∨ (rt = some .boolean ∧ (v = 0 ∨ v = 1))) ∧ Q (some (.int v)) h) := rfl
theorem e226_421 : exq sa F N S rt cd226 P Q 421 L st h = (ldR L 1 fun v => P 422 L (v :: st) h) := rfl
theorem e226_422 : exq sa F N S rt cd226 P Q 422 L st h = (ex1 sa F N S rt P Q 422 L st h (.invokevirtual 45) 0 98 1 6) := rfl
theorem e226_425 : exq sa F N S rt cd226 P Q 425 L st h = (ldR L 2 fun v => P 426 L (v :: st) h) := rfl
theorem e226_426 : exq sa F N S rt cd226 P Q 426 L st h = (ex1 sa F N S rt P Q 426 L st h (.invokevirtual 48) 0 179 1 7) := rfl
theorem e226_429 : exq sa F N S rt cd226 P Q 429 L st h = (tI st fun b s => tI s fun a s => br (a = b) (P 1429 L s h) (P 432 L s h)) := rfl
theorem e226_432 : exq sa F N S rt cd226 P Q 432 L st h = (P 433 L (.int (Int32.ofInt (0)) :: st) h) := rfl
theorem e226_433 : exq sa F N S rt cd226 P Q 433 L st h = (tI st fun v s => s = [] ∧ (rt = some .int ∨ (rt = some .boolean ∧ (v = 0 ∨ v = 1))) ∧ Q (some (.int v)) h) := rfl
theorem e226_434 : exq sa F N S rt cd226 P Q 434 L st h = (ldR L 1 fun v => P 435 L (v :: st) h) := rfl
theorem e226_435 : exq sa F N S rt cd226 P Q 435 L st h = (ldR L 0 fun v => P 436 L (v :: st) h) := rfl
theorem e226_436 : exq sa F N S rt cd226 P Q 436 L st h = (ldI L 3 fun v => P 437 L (.int v :: st) h) := rfl
theorem e226_437 : exq sa F N S rt cd226 P Q 437 L st h = (P 438 L (.int (Int32.ofInt (1)) :: st) h) := rfl
theorem e226_438 : exq sa F N S rt cd226 P Q 438 L st h = (tI st fun b s => tI s fun a s => P 439 L (.int (a + b) :: s) h) := rfl
theorem e226_439 : exq sa F N S rt cd226 P Q 439 L st h = (ex1 sa F N S rt P Q 439 L st h (.iaload) 0 0 0 0) := rfl
theorem e226_440 : exq sa F N S rt cd226 P Q 440 L st h = (ex1 sa F N S rt P Q 440 L st h (.invokevirtual 49) 0 99 2 6) := rfl
theorem e226_443 : exq sa F N S rt cd226 P Q 443 L st h = (ldR L 2 fun v => P 444 L (v :: st) h) := rfl
theorem e226_444 : exq sa F N S rt cd226 P Q 444 L st h = (ldR L 0 fun v => P 445 L (v :: st) h) := rfl
theorem e226_445 : exq sa F N S rt cd226 P Q 445 L st h = (ldI L 3 fun v => P 446 L (.int v :: st) h) := rfl
theorem e226_446 : exq sa F N S rt cd226 P Q 446 L st h = (P 447 L (.int (Int32.ofInt (1)) :: st) h) := rfl
theorem e226_447 : exq sa F N S rt cd226 P Q 447 L st h = (tI st fun b s => tI s fun a s => P 448 L (.int (a + b) :: s) h) := rfl
theorem e226_448 : exq sa F N S rt cd226 P Q 448 L st h = (ex1 sa F N S rt P Q 448 L st h (.iaload) 0 0 0 0) := rfl
theorem e226_449 : exq sa F N S rt cd226 P Q 449 L st h = (ex1 sa F N S rt P Q 449 L st h (.invokevirtual 52) 0 181 2 7) := rfl
theorem e226_452 : exq sa F N S rt cd226 P Q 452 L st h = (tI st fun b s => tI s fun a s => br (a = b) (P 1429 L s h) (P 455 L s h)) := rfl
theorem e226_455 : exq sa F N S rt cd226 P Q 455 L st h = (P 456 L (.int (Int32.ofInt (0)) :: st) h) := rfl
theorem e226_456 : exq sa F N S rt cd226 P Q 456 L st h = (tI st fun v s => s = [] ∧ (rt = some .int ∨ (rt = some .boolean ∧ (v = 0 ∨ v = 1))) ∧ Q (some (.int v)) h) := rfl
theorem e226_457 : exq sa F N S rt cd226 P Q 457 L st h = (ldR L 1 fun v => P 458 L (v :: st) h) := rfl
theorem e226_458 : exq sa F N S rt cd226 P Q 458 L st h = (ldR L 0 fun v => P 459 L (v :: st) h) := rfl
theorem e226_459 : exq sa F N S rt cd226 P Q 459 L st h = (ldI L 3 fun v => P 460 L (.int v :: st) h) := rfl
theorem e226_460 : exq sa F N S rt cd226 P Q 460 L st h = (P 461 L (.int (Int32.ofInt (1)) :: st) h) := rfl
theorem e226_461 : exq sa F N S rt cd226 P Q 461 L st h = (tI st fun b s => tI s fun a s => P 462 L (.int (a + b) :: s) h) := rfl
theorem e226_462 : exq sa F N S rt cd226 P Q 462 L st h = (ex1 sa F N S rt P Q 462 L st h (.iaload) 0 0 0 0) := rfl
theorem e226_463 : exq sa F N S rt cd226 P Q 463 L st h = (ex1 sa F N S rt P Q 463 L st h (.invokevirtual 53) 0 100 2 6) := rfl
theorem e226_466 : exq sa F N S rt cd226 P Q 466 L st h = (ldR L 2 fun v => P 467 L (v :: st) h) := rfl
theorem e226_467 : exq sa F N S rt cd226 P Q 467 L st h = (ldR L 0 fun v => P 468 L (v :: st) h) := rfl
theorem e226_468 : exq sa F N S rt cd226 P Q 468 L st h = (ldI L 3 fun v => P 469 L (.int v :: st) h) := rfl
theorem e226_469 : exq sa F N S rt cd226 P Q 469 L st h = (P 470 L (.int (Int32.ofInt (1)) :: st) h) := rfl
theorem e226_470 : exq sa F N S rt cd226 P Q 470 L st h = (tI st fun b s => tI s fun a s => P 471 L (.int (a + b) :: s) h) := rfl
theorem e226_471 : exq sa F N S rt cd226 P Q 471 L st h = (ex1 sa F N S rt P Q 471 L st h (.iaload) 0 0 0 0) := rfl
theorem e226_472 : exq sa F N S rt cd226 P Q 472 L st h = (ex1 sa F N S rt P Q 472 L st h (.invokevirtual 56) 0 182 2 7) := rfl
theorem e226_475 : exq sa F N S rt cd226 P Q 475 L st h = (tI st fun b s => tI s fun a s => br (a = b) (P 1429 L s h) (P 478 L s h)) := rfl
theorem e226_478 : exq sa F N S rt cd226 P Q 478 L st h = (P 479 L (.int (Int32.ofInt (0)) :: st) h) := rfl
theorem e226_479 : exq sa F N S rt cd226 P Q 479 L st h = (tI st fun v s => s = [] ∧ (rt = some .int ∨ (rt = some .boolean ∧ (v = 0 ∨ v = 1))) ∧ Q (some (.int v)) h) := rfl
theorem e226_480 : exq sa F N S rt cd226 P Q 480 L st h = (ldR L 1 fun v => P 481 L (v :: st) h) := rfl
theorem e226_481 : exq sa F N S rt cd226 P Q 481 L st h = (ldR L 0 fun v => P 482 L (v :: st) h) := rfl
theorem e226_482 : exq sa F N S rt cd226 P Q 482 L st h = (ldI L 3 fun v => P 483 L (.int v :: st) h) := rfl
theorem e226_483 : exq sa F N S rt cd226 P Q 483 L st h = (P 484 L (.int (Int32.ofInt (1)) :: st) h) := rfl
theorem e226_484 : exq sa F N S rt cd226 P Q 484 L st h = (tI st fun b s => tI s fun a s => P 485 L (.int (a + b) :: s) h) := rfl
theorem e226_485 : exq sa F N S rt cd226 P Q 485 L st h = (ex1 sa F N S rt P Q 485 L st h (.iaload) 0 0 0 0) := rfl
theorem e226_486 : exq sa F N S rt cd226 P Q 486 L st h = (ex1 sa F N S rt P Q 486 L st h (.invokevirtual 57) 0 101 2 6) := rfl
theorem e226_489 : exq sa F N S rt cd226 P Q 489 L st h = (ldR L 2 fun v => P 490 L (v :: st) h) := rfl
theorem e226_490 : exq sa F N S rt cd226 P Q 490 L st h = (ldR L 0 fun v => P 491 L (v :: st) h) := rfl
theorem e226_491 : exq sa F N S rt cd226 P Q 491 L st h = (ldI L 3 fun v => P 492 L (.int v :: st) h) := rfl
theorem e226_492 : exq sa F N S rt cd226 P Q 492 L st h = (P 493 L (.int (Int32.ofInt (1)) :: st) h) := rfl
theorem e226_493 : exq sa F N S rt cd226 P Q 493 L st h = (tI st fun b s => tI s fun a s => P 494 L (.int (a + b) :: s) h) := rfl
theorem e226_494 : exq sa F N S rt cd226 P Q 494 L st h = (ex1 sa F N S rt P Q 494 L st h (.iaload) 0 0 0 0) := rfl
theorem e226_495 : exq sa F N S rt cd226 P Q 495 L st h = (ex1 sa F N S rt P Q 495 L st h (.invokevirtual 60) 0 183 2 7) := rfl
theorem e226_498 : exq sa F N S rt cd226 P Q 498 L st h = (tI st fun b s => tI s fun a s => br (a = b) (P 1429 L s h) (P 501 L s h)) := rfl
theorem e226_501 : exq sa F N S rt cd226 P Q 501 L st h = (P 502 L (.int (Int32.ofInt (0)) :: st) h) := rfl
theorem e226_502 : exq sa F N S rt cd226 P Q 502 L st h = (tI st fun v s => s = [] ∧ (rt = some .int ∨ (rt = some .boolean ∧ (v = 0 ∨ v = 1))) ∧ Q (some (.int v)) h) := rfl
theorem e226_503 : exq sa F N S rt cd226 P Q 503 L st h = (ldR L 1 fun v => P 504 L (v :: st) h) := rfl
theorem e226_504 : exq sa F N S rt cd226 P Q 504 L st h = (ldR L 0 fun v => P 505 L (v :: st) h) := rfl
theorem e226_505 : exq sa F N S rt cd226 P Q 505 L st h = (ldI L 3 fun v => P 506 L (.int v :: st) h) := rfl
theorem e226_506 : exq sa F N S rt cd226 P Q 506 L st h = (P 507 L (.int (Int32.ofInt (1)) :: st) h) := rfl
theorem e226_507 : exq sa F N S rt cd226 P Q 507 L st h = (tI st fun b s => tI s fun a s => P 508 L (.int (a + b) :: s) h) := rfl
theorem e226_508 : exq sa F N S rt cd226 P Q 508 L st h = (ex1 sa F N S rt P Q 508 L st h (.iaload) 0 0 0 0) := rfl
theorem e226_509 : exq sa F N S rt cd226 P Q 509 L st h = (ldR L 0 fun v => P 510 L (v :: st) h) := rfl
theorem e226_510 : exq sa F N S rt cd226 P Q 510 L st h = (ldI L 3 fun v => P 511 L (.int v :: st) h) := rfl
theorem e226_511 : exq sa F N S rt cd226 P Q 511 L st h = (P 512 L (.int (Int32.ofInt (2)) :: st) h) := rfl
theorem e226_512 : exq sa F N S rt cd226 P Q 512 L st h = (tI st fun b s => tI s fun a s => P 513 L (.int (a + b) :: s) h) := rfl
theorem e226_513 : exq sa F N S rt cd226 P Q 513 L st h = (ex1 sa F N S rt P Q 513 L st h (.iaload) 0 0 0 0) := rfl
theorem e226_514 : exq sa F N S rt cd226 P Q 514 L st h = (ex1 sa F N S rt P Q 514 L st h (.invokevirtual 61) 0 102 3 6) := rfl
theorem e226_517 : exq sa F N S rt cd226 P Q 517 L st h = (ldR L 2 fun v => P 518 L (v :: st) h) := rfl
theorem e226_518 : exq sa F N S rt cd226 P Q 518 L st h = (ldR L 0 fun v => P 519 L (v :: st) h) := rfl
theorem e226_519 : exq sa F N S rt cd226 P Q 519 L st h = (ldI L 3 fun v => P 520 L (.int v :: st) h) := rfl
theorem e226_520 : exq sa F N S rt cd226 P Q 520 L st h = (P 521 L (.int (Int32.ofInt (1)) :: st) h) := rfl
theorem e226_521 : exq sa F N S rt cd226 P Q 521 L st h = (tI st fun b s => tI s fun a s => P 522 L (.int (a + b) :: s) h) := rfl
theorem e226_522 : exq sa F N S rt cd226 P Q 522 L st h = (ex1 sa F N S rt P Q 522 L st h (.iaload) 0 0 0 0) := rfl
theorem e226_523 : exq sa F N S rt cd226 P Q 523 L st h = (ldR L 0 fun v => P 524 L (v :: st) h) := rfl
theorem e226_524 : exq sa F N S rt cd226 P Q 524 L st h = (ldI L 3 fun v => P 525 L (.int v :: st) h) := rfl
theorem e226_525 : exq sa F N S rt cd226 P Q 525 L st h = (P 526 L (.int (Int32.ofInt (2)) :: st) h) := rfl
theorem e226_526 : exq sa F N S rt cd226 P Q 526 L st h = (tI st fun b s => tI s fun a s => P 527 L (.int (a + b) :: s) h) := rfl
theorem e226_527 : exq sa F N S rt cd226 P Q 527 L st h = (ex1 sa F N S rt P Q 527 L st h (.iaload) 0 0 0 0) := rfl
theorem e226_528 : exq sa F N S rt cd226 P Q 528 L st h = (ex1 sa F N S rt P Q 528 L st h (.invokevirtual 65) 0 184 3 7) := rfl
theorem e226_531 : exq sa F N S rt cd226 P Q 531 L st h = (tI st fun b s => tI s fun a s => br (a = b) (P 1429 L s h) (P 534 L s h)) := rfl
theorem e226_534 : exq sa F N S rt cd226 P Q 534 L st h = (P 535 L (.int (Int32.ofInt (0)) :: st) h) := rfl
theorem e226_535 : exq sa F N S rt cd226 P Q 535 L st h = (tI st fun v s => s = [] ∧ (rt = some .int ∨ (rt = some .boolean ∧ (v = 0 ∨ v = 1))) ∧ Q (some (.int v)) h) := rfl
theorem e226_536 : exq sa F N S rt cd226 P Q 536 L st h = (ldR L 1 fun v => P 537 L (v :: st) h) := rfl
theorem e226_537 : exq sa F N S rt cd226 P Q 537 L st h = (ldR L 0 fun v => P 538 L (v :: st) h) := rfl
theorem e226_538 : exq sa F N S rt cd226 P Q 538 L st h = (ldI L 3 fun v => P 539 L (.int v :: st) h) := rfl
theorem e226_539 : exq sa F N S rt cd226 P Q 539 L st h = (P 540 L (.int (Int32.ofInt (1)) :: st) h) := rfl
theorem e226_540 : exq sa F N S rt cd226 P Q 540 L st h = (tI st fun b s => tI s fun a s => P 541 L (.int (a + b) :: s) h) := rfl
theorem e226_541 : exq sa F N S rt cd226 P Q 541 L st h = (ex1 sa F N S rt P Q 541 L st h (.iaload) 0 0 0 0) := rfl
theorem e226_542 : exq sa F N S rt cd226 P Q 542 L st h = (ldR L 0 fun v => P 543 L (v :: st) h) := rfl
theorem e226_543 : exq sa F N S rt cd226 P Q 543 L st h = (ldI L 3 fun v => P 544 L (.int v :: st) h) := rfl
theorem e226_544 : exq sa F N S rt cd226 P Q 544 L st h = (P 545 L (.int (Int32.ofInt (2)) :: st) h) := rfl
theorem e226_545 : exq sa F N S rt cd226 P Q 545 L st h = (tI st fun b s => tI s fun a s => P 546 L (.int (a + b) :: s) h) := rfl
theorem e226_546 : exq sa F N S rt cd226 P Q 546 L st h = (ex1 sa F N S rt P Q 546 L st h (.iaload) 0 0 0 0) := rfl
theorem e226_547 : exq sa F N S rt cd226 P Q 547 L st h = (ex1 sa F N S rt P Q 547 L st h (.invokevirtual 66) 0 103 3 6) := rfl
theorem e226_550 : exq sa F N S rt cd226 P Q 550 L st h = (ldR L 2 fun v => P 551 L (v :: st) h) := rfl
theorem e226_551 : exq sa F N S rt cd226 P Q 551 L st h = (ldR L 0 fun v => P 552 L (v :: st) h) := rfl
theorem e226_552 : exq sa F N S rt cd226 P Q 552 L st h = (ldI L 3 fun v => P 553 L (.int v :: st) h) := rfl
theorem e226_553 : exq sa F N S rt cd226 P Q 553 L st h = (P 554 L (.int (Int32.ofInt (1)) :: st) h) := rfl
theorem e226_554 : exq sa F N S rt cd226 P Q 554 L st h = (tI st fun b s => tI s fun a s => P 555 L (.int (a + b) :: s) h) := rfl
theorem e226_555 : exq sa F N S rt cd226 P Q 555 L st h = (ex1 sa F N S rt P Q 555 L st h (.iaload) 0 0 0 0) := rfl
theorem e226_556 : exq sa F N S rt cd226 P Q 556 L st h = (ldR L 0 fun v => P 557 L (v :: st) h) := rfl
theorem e226_557 : exq sa F N S rt cd226 P Q 557 L st h = (ldI L 3 fun v => P 558 L (.int v :: st) h) := rfl
theorem e226_558 : exq sa F N S rt cd226 P Q 558 L st h = (P 559 L (.int (Int32.ofInt (2)) :: st) h) := rfl
theorem e226_559 : exq sa F N S rt cd226 P Q 559 L st h = (tI st fun b s => tI s fun a s => P 560 L (.int (a + b) :: s) h) := rfl
theorem e226_560 : exq sa F N S rt cd226 P Q 560 L st h = (ex1 sa F N S rt P Q 560 L st h (.iaload) 0 0 0 0) := rfl
theorem e226_561 : exq sa F N S rt cd226 P Q 561 L st h = (ex1 sa F N S rt P Q 561 L st h (.invokevirtual 69) 0 185 3 7) := rfl
theorem e226_564 : exq sa F N S rt cd226 P Q 564 L st h = (tI st fun b s => tI s fun a s => br (a = b) (P 1429 L s h) (P 567 L s h)) := rfl
theorem e226_567 : exq sa F N S rt cd226 P Q 567 L st h = (P 568 L (.int (Int32.ofInt (0)) :: st) h) := rfl
theorem e226_568 : exq sa F N S rt cd226 P Q 568 L st h = (tI st fun v s => s = [] ∧ (rt = some .int ∨ (rt = some .boolean ∧ (v = 0 ∨ v = 1))) ∧ Q (some (.int v)) h) := rfl
theorem e226_569 : exq sa F N S rt cd226 P Q 569 L st h = (ldR L 1 fun v => P 570 L (v :: st) h) := rfl
theorem e226_570 : exq sa F N S rt cd226 P Q 570 L st h = (ldR L 0 fun v => P 571 L (v :: st) h) := rfl
theorem e226_571 : exq sa F N S rt cd226 P Q 571 L st h = (ldI L 3 fun v => P 572 L (.int v :: st) h) := rfl
theorem e226_572 : exq sa F N S rt cd226 P Q 572 L st h = (P 573 L (.int (Int32.ofInt (1)) :: st) h) := rfl
theorem e226_573 : exq sa F N S rt cd226 P Q 573 L st h = (tI st fun b s => tI s fun a s => P 574 L (.int (a + b) :: s) h) := rfl
theorem e226_574 : exq sa F N S rt cd226 P Q 574 L st h = (ex1 sa F N S rt P Q 574 L st h (.iaload) 0 0 0 0) := rfl
theorem e226_575 : exq sa F N S rt cd226 P Q 575 L st h = (ldR L 0 fun v => P 576 L (v :: st) h) := rfl
theorem e226_576 : exq sa F N S rt cd226 P Q 576 L st h = (ldI L 3 fun v => P 577 L (.int v :: st) h) := rfl
theorem e226_577 : exq sa F N S rt cd226 P Q 577 L st h = (P 578 L (.int (Int32.ofInt (2)) :: st) h) := rfl
theorem e226_578 : exq sa F N S rt cd226 P Q 578 L st h = (tI st fun b s => tI s fun a s => P 579 L (.int (a + b) :: s) h) := rfl
theorem e226_579 : exq sa F N S rt cd226 P Q 579 L st h = (ex1 sa F N S rt P Q 579 L st h (.iaload) 0 0 0 0) := rfl
theorem e226_580 : exq sa F N S rt cd226 P Q 580 L st h = (ex1 sa F N S rt P Q 580 L st h (.invokevirtual 70) 0 104 3 6) := rfl
theorem e226_583 : exq sa F N S rt cd226 P Q 583 L st h = (ldR L 2 fun v => P 584 L (v :: st) h) := rfl
theorem e226_584 : exq sa F N S rt cd226 P Q 584 L st h = (ldR L 0 fun v => P 585 L (v :: st) h) := rfl
theorem e226_585 : exq sa F N S rt cd226 P Q 585 L st h = (ldI L 3 fun v => P 586 L (.int v :: st) h) := rfl
theorem e226_586 : exq sa F N S rt cd226 P Q 586 L st h = (P 587 L (.int (Int32.ofInt (1)) :: st) h) := rfl
theorem e226_587 : exq sa F N S rt cd226 P Q 587 L st h = (tI st fun b s => tI s fun a s => P 588 L (.int (a + b) :: s) h) := rfl
theorem e226_588 : exq sa F N S rt cd226 P Q 588 L st h = (ex1 sa F N S rt P Q 588 L st h (.iaload) 0 0 0 0) := rfl
theorem e226_589 : exq sa F N S rt cd226 P Q 589 L st h = (ldR L 0 fun v => P 590 L (v :: st) h) := rfl
theorem e226_590 : exq sa F N S rt cd226 P Q 590 L st h = (ldI L 3 fun v => P 591 L (.int v :: st) h) := rfl
theorem e226_591 : exq sa F N S rt cd226 P Q 591 L st h = (P 592 L (.int (Int32.ofInt (2)) :: st) h) := rfl
theorem e226_592 : exq sa F N S rt cd226 P Q 592 L st h = (tI st fun b s => tI s fun a s => P 593 L (.int (a + b) :: s) h) := rfl
theorem e226_593 : exq sa F N S rt cd226 P Q 593 L st h = (ex1 sa F N S rt P Q 593 L st h (.iaload) 0 0 0 0) := rfl
theorem e226_594 : exq sa F N S rt cd226 P Q 594 L st h = (ex1 sa F N S rt P Q 594 L st h (.invokevirtual 73) 0 186 3 7) := rfl
theorem e226_597 : exq sa F N S rt cd226 P Q 597 L st h = (tI st fun b s => tI s fun a s => br (a = b) (P 1429 L s h) (P 600 L s h)) := rfl
theorem e226_600 : exq sa F N S rt cd226 P Q 600 L st h = (P 601 L (.int (Int32.ofInt (0)) :: st) h) := rfl
theorem e226_601 : exq sa F N S rt cd226 P Q 601 L st h = (tI st fun v s => s = [] ∧ (rt = some .int ∨ (rt = some .boolean ∧ (v = 0 ∨ v = 1))) ∧ Q (some (.int v)) h) := rfl
theorem e226_602 : exq sa F N S rt cd226 P Q 602 L st h = (ldR L 1 fun v => P 603 L (v :: st) h) := rfl
theorem e226_603 : exq sa F N S rt cd226 P Q 603 L st h = (ldR L 0 fun v => P 604 L (v :: st) h) := rfl
theorem e226_604 : exq sa F N S rt cd226 P Q 604 L st h = (ldI L 3 fun v => P 605 L (.int v :: st) h) := rfl
theorem e226_605 : exq sa F N S rt cd226 P Q 605 L st h = (P 606 L (.int (Int32.ofInt (1)) :: st) h) := rfl
theorem e226_606 : exq sa F N S rt cd226 P Q 606 L st h = (tI st fun b s => tI s fun a s => P 607 L (.int (a + b) :: s) h) := rfl
theorem e226_607 : exq sa F N S rt cd226 P Q 607 L st h = (ex1 sa F N S rt P Q 607 L st h (.iaload) 0 0 0 0) := rfl
theorem e226_608 : exq sa F N S rt cd226 P Q 608 L st h = (ldR L 0 fun v => P 609 L (v :: st) h) := rfl
theorem e226_609 : exq sa F N S rt cd226 P Q 609 L st h = (ldI L 3 fun v => P 610 L (.int v :: st) h) := rfl
theorem e226_610 : exq sa F N S rt cd226 P Q 610 L st h = (P 611 L (.int (Int32.ofInt (2)) :: st) h) := rfl
theorem e226_611 : exq sa F N S rt cd226 P Q 611 L st h = (tI st fun b s => tI s fun a s => P 612 L (.int (a + b) :: s) h) := rfl
theorem e226_612 : exq sa F N S rt cd226 P Q 612 L st h = (ex1 sa F N S rt P Q 612 L st h (.iaload) 0 0 0 0) := rfl
theorem e226_613 : exq sa F N S rt cd226 P Q 613 L st h = (ex1 sa F N S rt P Q 613 L st h (.invokevirtual 74) 0 105 3 6) := rfl
theorem e226_616 : exq sa F N S rt cd226 P Q 616 L st h = (ldR L 2 fun v => P 617 L (v :: st) h) := rfl
theorem e226_617 : exq sa F N S rt cd226 P Q 617 L st h = (ldR L 0 fun v => P 618 L (v :: st) h) := rfl
theorem e226_618 : exq sa F N S rt cd226 P Q 618 L st h = (ldI L 3 fun v => P 619 L (.int v :: st) h) := rfl
theorem e226_619 : exq sa F N S rt cd226 P Q 619 L st h = (P 620 L (.int (Int32.ofInt (1)) :: st) h) := rfl
theorem e226_620 : exq sa F N S rt cd226 P Q 620 L st h = (tI st fun b s => tI s fun a s => P 621 L (.int (a + b) :: s) h) := rfl
theorem e226_621 : exq sa F N S rt cd226 P Q 621 L st h = (ex1 sa F N S rt P Q 621 L st h (.iaload) 0 0 0 0) := rfl
theorem e226_622 : exq sa F N S rt cd226 P Q 622 L st h = (ldR L 0 fun v => P 623 L (v :: st) h) := rfl
theorem e226_623 : exq sa F N S rt cd226 P Q 623 L st h = (ldI L 3 fun v => P 624 L (.int v :: st) h) := rfl
theorem e226_624 : exq sa F N S rt cd226 P Q 624 L st h = (P 625 L (.int (Int32.ofInt (2)) :: st) h) := rfl
theorem e226_625 : exq sa F N S rt cd226 P Q 625 L st h = (tI st fun b s => tI s fun a s => P 626 L (.int (a + b) :: s) h) := rfl
theorem e226_626 : exq sa F N S rt cd226 P Q 626 L st h = (ex1 sa F N S rt P Q 626 L st h (.iaload) 0 0 0 0) := rfl
theorem e226_627 : exq sa F N S rt cd226 P Q 627 L st h = (ex1 sa F N S rt P Q 627 L st h (.invokevirtual 77) 0 187 3 7) := rfl
theorem e226_630 : exq sa F N S rt cd226 P Q 630 L st h = (tI st fun b s => tI s fun a s => br (a = b) (P 1429 L s h) (P 633 L s h)) := rfl
theorem e226_633 : exq sa F N S rt cd226 P Q 633 L st h = (P 634 L (.int (Int32.ofInt (0)) :: st) h) := rfl
theorem e226_634 : exq sa F N S rt cd226 P Q 634 L st h = (tI st fun v s => s = [] ∧ (rt = some .int ∨ (rt = some .boolean ∧ (v = 0 ∨ v = 1))) ∧ Q (some (.int v)) h) := rfl
theorem e226_635 : exq sa F N S rt cd226 P Q 635 L st h = (ldR L 1 fun v => P 636 L (v :: st) h) := rfl
theorem e226_636 : exq sa F N S rt cd226 P Q 636 L st h = (ldR L 0 fun v => P 637 L (v :: st) h) := rfl
theorem e226_637 : exq sa F N S rt cd226 P Q 637 L st h = (ldI L 3 fun v => P 638 L (.int v :: st) h) := rfl
theorem e226_638 : exq sa F N S rt cd226 P Q 638 L st h = (P 639 L (.int (Int32.ofInt (1)) :: st) h) := rfl
theorem e226_639 : exq sa F N S rt cd226 P Q 639 L st h = (tI st fun b s => tI s fun a s => P 640 L (.int (a + b) :: s) h) := rfl
theorem e226_640 : exq sa F N S rt cd226 P Q 640 L st h = (ex1 sa F N S rt P Q 640 L st h (.iaload) 0 0 0 0) := rfl
theorem e226_641 : exq sa F N S rt cd226 P Q 641 L st h = (ex1 sa F N S rt P Q 641 L st h (.invokevirtual 78) 0 106 2 6) := rfl
theorem e226_644 : exq sa F N S rt cd226 P Q 644 L st h = (ldR L 2 fun v => P 645 L (v :: st) h) := rfl
theorem e226_645 : exq sa F N S rt cd226 P Q 645 L st h = (ldR L 0 fun v => P 646 L (v :: st) h) := rfl
theorem e226_646 : exq sa F N S rt cd226 P Q 646 L st h = (ldI L 3 fun v => P 647 L (.int v :: st) h) := rfl
theorem e226_647 : exq sa F N S rt cd226 P Q 647 L st h = (P 648 L (.int (Int32.ofInt (1)) :: st) h) := rfl
theorem e226_648 : exq sa F N S rt cd226 P Q 648 L st h = (tI st fun b s => tI s fun a s => P 649 L (.int (a + b) :: s) h) := rfl
theorem e226_649 : exq sa F N S rt cd226 P Q 649 L st h = (ex1 sa F N S rt P Q 649 L st h (.iaload) 0 0 0 0) := rfl
theorem e226_650 : exq sa F N S rt cd226 P Q 650 L st h = (ex1 sa F N S rt P Q 650 L st h (.invokevirtual 81) 0 188 2 7) := rfl
theorem e226_653 : exq sa F N S rt cd226 P Q 653 L st h = (tI st fun b s => tI s fun a s => br (a = b) (P 1429 L s h) (P 656 L s h)) := rfl
theorem e226_656 : exq sa F N S rt cd226 P Q 656 L st h = (P 657 L (.int (Int32.ofInt (0)) :: st) h) := rfl
theorem e226_657 : exq sa F N S rt cd226 P Q 657 L st h = (tI st fun v s => s = [] ∧ (rt = some .int ∨ (rt = some .boolean ∧ (v = 0 ∨ v = 1))) ∧ Q (some (.int v)) h) := rfl
theorem e226_658 : exq sa F N S rt cd226 P Q 658 L st h = (ldR L 1 fun v => P 659 L (v :: st) h) := rfl
theorem e226_659 : exq sa F N S rt cd226 P Q 659 L st h = (ldR L 0 fun v => P 660 L (v :: st) h) := rfl
theorem e226_660 : exq sa F N S rt cd226 P Q 660 L st h = (ldI L 3 fun v => P 661 L (.int v :: st) h) := rfl
theorem e226_661 : exq sa F N S rt cd226 P Q 661 L st h = (P 662 L (.int (Int32.ofInt (1)) :: st) h) := rfl
theorem e226_662 : exq sa F N S rt cd226 P Q 662 L st h = (tI st fun b s => tI s fun a s => P 663 L (.int (a + b) :: s) h) := rfl
theorem e226_663 : exq sa F N S rt cd226 P Q 663 L st h = (ex1 sa F N S rt P Q 663 L st h (.iaload) 0 0 0 0) := rfl
theorem e226_664 : exq sa F N S rt cd226 P Q 664 L st h = (ldR L 0 fun v => P 665 L (v :: st) h) := rfl
theorem e226_665 : exq sa F N S rt cd226 P Q 665 L st h = (ldI L 3 fun v => P 666 L (.int v :: st) h) := rfl
theorem e226_666 : exq sa F N S rt cd226 P Q 666 L st h = (P 667 L (.int (Int32.ofInt (2)) :: st) h) := rfl
theorem e226_667 : exq sa F N S rt cd226 P Q 667 L st h = (tI st fun b s => tI s fun a s => P 668 L (.int (a + b) :: s) h) := rfl
theorem e226_668 : exq sa F N S rt cd226 P Q 668 L st h = (ex1 sa F N S rt P Q 668 L st h (.iaload) 0 0 0 0) := rfl
theorem e226_669 : exq sa F N S rt cd226 P Q 669 L st h = (ldR L 0 fun v => P 670 L (v :: st) h) := rfl
theorem e226_670 : exq sa F N S rt cd226 P Q 670 L st h = (ldI L 3 fun v => P 671 L (.int v :: st) h) := rfl
theorem e226_671 : exq sa F N S rt cd226 P Q 671 L st h = (P 672 L (.int (Int32.ofInt (3)) :: st) h) := rfl
theorem e226_672 : exq sa F N S rt cd226 P Q 672 L st h = (tI st fun b s => tI s fun a s => P 673 L (.int (a + b) :: s) h) := rfl
theorem e226_673 : exq sa F N S rt cd226 P Q 673 L st h = (ex1 sa F N S rt P Q 673 L st h (.iaload) 0 0 0 0) := rfl
theorem e226_674 : exq sa F N S rt cd226 P Q 674 L st h = (ex1 sa F N S rt P Q 674 L st h (.invokevirtual 82) 0 107 4 6) := rfl
theorem e226_677 : exq sa F N S rt cd226 P Q 677 L st h = (ldR L 2 fun v => P 678 L (v :: st) h) := rfl
theorem e226_678 : exq sa F N S rt cd226 P Q 678 L st h = (ldR L 0 fun v => P 679 L (v :: st) h) := rfl
theorem e226_679 : exq sa F N S rt cd226 P Q 679 L st h = (ldI L 3 fun v => P 680 L (.int v :: st) h) := rfl
theorem e226_680 : exq sa F N S rt cd226 P Q 680 L st h = (P 681 L (.int (Int32.ofInt (1)) :: st) h) := rfl
theorem e226_681 : exq sa F N S rt cd226 P Q 681 L st h = (tI st fun b s => tI s fun a s => P 682 L (.int (a + b) :: s) h) := rfl
theorem e226_682 : exq sa F N S rt cd226 P Q 682 L st h = (ex1 sa F N S rt P Q 682 L st h (.iaload) 0 0 0 0) := rfl
theorem e226_683 : exq sa F N S rt cd226 P Q 683 L st h = (ldR L 0 fun v => P 684 L (v :: st) h) := rfl
theorem e226_684 : exq sa F N S rt cd226 P Q 684 L st h = (ldI L 3 fun v => P 685 L (.int v :: st) h) := rfl
theorem e226_685 : exq sa F N S rt cd226 P Q 685 L st h = (P 686 L (.int (Int32.ofInt (2)) :: st) h) := rfl
theorem e226_686 : exq sa F N S rt cd226 P Q 686 L st h = (tI st fun b s => tI s fun a s => P 687 L (.int (a + b) :: s) h) := rfl
theorem e226_687 : exq sa F N S rt cd226 P Q 687 L st h = (ex1 sa F N S rt P Q 687 L st h (.iaload) 0 0 0 0) := rfl
theorem e226_688 : exq sa F N S rt cd226 P Q 688 L st h = (ldR L 0 fun v => P 689 L (v :: st) h) := rfl
theorem e226_689 : exq sa F N S rt cd226 P Q 689 L st h = (ldI L 3 fun v => P 690 L (.int v :: st) h) := rfl
theorem e226_690 : exq sa F N S rt cd226 P Q 690 L st h = (P 691 L (.int (Int32.ofInt (3)) :: st) h) := rfl
theorem e226_691 : exq sa F N S rt cd226 P Q 691 L st h = (tI st fun b s => tI s fun a s => P 692 L (.int (a + b) :: s) h) := rfl
theorem e226_692 : exq sa F N S rt cd226 P Q 692 L st h = (ex1 sa F N S rt P Q 692 L st h (.iaload) 0 0 0 0) := rfl
theorem e226_693 : exq sa F N S rt cd226 P Q 693 L st h = (ex1 sa F N S rt P Q 693 L st h (.invokevirtual 85) 0 192 4 7) := rfl
theorem e226_696 : exq sa F N S rt cd226 P Q 696 L st h = (tI st fun b s => tI s fun a s => br (a = b) (P 1429 L s h) (P 699 L s h)) := rfl
theorem e226_699 : exq sa F N S rt cd226 P Q 699 L st h = (P 700 L (.int (Int32.ofInt (0)) :: st) h) := rfl
theorem e226_700 : exq sa F N S rt cd226 P Q 700 L st h = (tI st fun v s => s = [] ∧ (rt = some .int ∨ (rt = some .boolean ∧ (v = 0 ∨ v = 1))) ∧ Q (some (.int v)) h) := rfl
theorem e226_701 : exq sa F N S rt cd226 P Q 701 L st h = (ldR L 1 fun v => P 702 L (v :: st) h) := rfl
theorem e226_702 : exq sa F N S rt cd226 P Q 702 L st h = (ldR L 0 fun v => P 703 L (v :: st) h) := rfl
theorem e226_703 : exq sa F N S rt cd226 P Q 703 L st h = (ldI L 3 fun v => P 704 L (.int v :: st) h) := rfl
theorem e226_704 : exq sa F N S rt cd226 P Q 704 L st h = (P 705 L (.int (Int32.ofInt (1)) :: st) h) := rfl
theorem e226_705 : exq sa F N S rt cd226 P Q 705 L st h = (tI st fun b s => tI s fun a s => P 706 L (.int (a + b) :: s) h) := rfl
theorem e226_706 : exq sa F N S rt cd226 P Q 706 L st h = (ex1 sa F N S rt P Q 706 L st h (.iaload) 0 0 0 0) := rfl
theorem e226_707 : exq sa F N S rt cd226 P Q 707 L st h = (ldR L 0 fun v => P 708 L (v :: st) h) := rfl
theorem e226_708 : exq sa F N S rt cd226 P Q 708 L st h = (ldI L 3 fun v => P 709 L (.int v :: st) h) := rfl
theorem e226_709 : exq sa F N S rt cd226 P Q 709 L st h = (P 710 L (.int (Int32.ofInt (2)) :: st) h) := rfl
theorem e226_710 : exq sa F N S rt cd226 P Q 710 L st h = (tI st fun b s => tI s fun a s => P 711 L (.int (a + b) :: s) h) := rfl
theorem e226_711 : exq sa F N S rt cd226 P Q 711 L st h = (ex1 sa F N S rt P Q 711 L st h (.iaload) 0 0 0 0) := rfl
theorem e226_712 : exq sa F N S rt cd226 P Q 712 L st h = (ex1 sa F N S rt P Q 712 L st h (.invokevirtual 86) 0 108 3 6) := rfl
theorem e226_715 : exq sa F N S rt cd226 P Q 715 L st h = (ldR L 2 fun v => P 716 L (v :: st) h) := rfl
theorem e226_716 : exq sa F N S rt cd226 P Q 716 L st h = (ldR L 0 fun v => P 717 L (v :: st) h) := rfl
theorem e226_717 : exq sa F N S rt cd226 P Q 717 L st h = (ldI L 3 fun v => P 718 L (.int v :: st) h) := rfl
theorem e226_718 : exq sa F N S rt cd226 P Q 718 L st h = (P 719 L (.int (Int32.ofInt (1)) :: st) h) := rfl
theorem e226_719 : exq sa F N S rt cd226 P Q 719 L st h = (tI st fun b s => tI s fun a s => P 720 L (.int (a + b) :: s) h) := rfl
theorem e226_720 : exq sa F N S rt cd226 P Q 720 L st h = (ex1 sa F N S rt P Q 720 L st h (.iaload) 0 0 0 0) := rfl
theorem e226_721 : exq sa F N S rt cd226 P Q 721 L st h = (ldR L 0 fun v => P 722 L (v :: st) h) := rfl
theorem e226_722 : exq sa F N S rt cd226 P Q 722 L st h = (ldI L 3 fun v => P 723 L (.int v :: st) h) := rfl
theorem e226_723 : exq sa F N S rt cd226 P Q 723 L st h = (P 724 L (.int (Int32.ofInt (2)) :: st) h) := rfl
theorem e226_724 : exq sa F N S rt cd226 P Q 724 L st h = (tI st fun b s => tI s fun a s => P 725 L (.int (a + b) :: s) h) := rfl
theorem e226_725 : exq sa F N S rt cd226 P Q 725 L st h = (ex1 sa F N S rt P Q 725 L st h (.iaload) 0 0 0 0) := rfl
theorem e226_726 : exq sa F N S rt cd226 P Q 726 L st h = (ex1 sa F N S rt P Q 726 L st h (.invokevirtual 89) 0 193 3 7) := rfl
theorem e226_729 : exq sa F N S rt cd226 P Q 729 L st h = (tI st fun b s => tI s fun a s => br (a = b) (P 1429 L s h) (P 732 L s h)) := rfl
theorem e226_732 : exq sa F N S rt cd226 P Q 732 L st h = (P 733 L (.int (Int32.ofInt (0)) :: st) h) := rfl
theorem e226_733 : exq sa F N S rt cd226 P Q 733 L st h = (tI st fun v s => s = [] ∧ (rt = some .int ∨ (rt = some .boolean ∧ (v = 0 ∨ v = 1))) ∧ Q (some (.int v)) h) := rfl
theorem e226_734 : exq sa F N S rt cd226 P Q 734 L st h = (ldR L 1 fun v => P 735 L (v :: st) h) := rfl
theorem e226_735 : exq sa F N S rt cd226 P Q 735 L st h = (ldR L 0 fun v => P 736 L (v :: st) h) := rfl
theorem e226_736 : exq sa F N S rt cd226 P Q 736 L st h = (ldI L 3 fun v => P 737 L (.int v :: st) h) := rfl
theorem e226_737 : exq sa F N S rt cd226 P Q 737 L st h = (P 738 L (.int (Int32.ofInt (1)) :: st) h) := rfl
theorem e226_738 : exq sa F N S rt cd226 P Q 738 L st h = (tI st fun b s => tI s fun a s => P 739 L (.int (a + b) :: s) h) := rfl
theorem e226_739 : exq sa F N S rt cd226 P Q 739 L st h = (ex1 sa F N S rt P Q 739 L st h (.iaload) 0 0 0 0) := rfl
theorem e226_740 : exq sa F N S rt cd226 P Q 740 L st h = (ex1 sa F N S rt P Q 740 L st h (.invokevirtual 90) 0 109 2 6) := rfl
theorem e226_743 : exq sa F N S rt cd226 P Q 743 L st h = (ldR L 2 fun v => P 744 L (v :: st) h) := rfl
theorem e226_744 : exq sa F N S rt cd226 P Q 744 L st h = (ldR L 0 fun v => P 745 L (v :: st) h) := rfl
theorem e226_745 : exq sa F N S rt cd226 P Q 745 L st h = (ldI L 3 fun v => P 746 L (.int v :: st) h) := rfl
theorem e226_746 : exq sa F N S rt cd226 P Q 746 L st h = (P 747 L (.int (Int32.ofInt (1)) :: st) h) := rfl
theorem e226_747 : exq sa F N S rt cd226 P Q 747 L st h = (tI st fun b s => tI s fun a s => P 748 L (.int (a + b) :: s) h) := rfl
theorem e226_748 : exq sa F N S rt cd226 P Q 748 L st h = (ex1 sa F N S rt P Q 748 L st h (.iaload) 0 0 0 0) := rfl
theorem e226_749 : exq sa F N S rt cd226 P Q 749 L st h = (ex1 sa F N S rt P Q 749 L st h (.invokevirtual 93) 0 194 2 7) := rfl
theorem e226_752 : exq sa F N S rt cd226 P Q 752 L st h = (tI st fun b s => tI s fun a s => br (a = b) (P 1429 L s h) (P 755 L s h)) := rfl
theorem e226_755 : exq sa F N S rt cd226 P Q 755 L st h = (P 756 L (.int (Int32.ofInt (0)) :: st) h) := rfl
theorem e226_756 : exq sa F N S rt cd226 P Q 756 L st h = (tI st fun v s => s = [] ∧ (rt = some .int ∨ (rt = some .boolean ∧ (v = 0 ∨ v = 1))) ∧ Q (some (.int v)) h) := rfl
theorem e226_757 : exq sa F N S rt cd226 P Q 757 L st h = (ldR L 1 fun v => P 758 L (v :: st) h) := rfl
theorem e226_758 : exq sa F N S rt cd226 P Q 758 L st h = (ldR L 0 fun v => P 759 L (v :: st) h) := rfl
theorem e226_759 : exq sa F N S rt cd226 P Q 759 L st h = (ldI L 3 fun v => P 760 L (.int v :: st) h) := rfl
theorem e226_760 : exq sa F N S rt cd226 P Q 760 L st h = (P 761 L (.int (Int32.ofInt (1)) :: st) h) := rfl
theorem e226_761 : exq sa F N S rt cd226 P Q 761 L st h = (tI st fun b s => tI s fun a s => P 762 L (.int (a + b) :: s) h) := rfl
theorem e226_762 : exq sa F N S rt cd226 P Q 762 L st h = (ex1 sa F N S rt P Q 762 L st h (.iaload) 0 0 0 0) := rfl
theorem e226_763 : exq sa F N S rt cd226 P Q 763 L st h = (ex1 sa F N S rt P Q 763 L st h (.invokevirtual 94) 0 110 2 6) := rfl
theorem e226_766 : exq sa F N S rt cd226 P Q 766 L st h = (ldR L 2 fun v => P 767 L (v :: st) h) := rfl
theorem e226_767 : exq sa F N S rt cd226 P Q 767 L st h = (ldR L 0 fun v => P 768 L (v :: st) h) := rfl
theorem e226_768 : exq sa F N S rt cd226 P Q 768 L st h = (ldI L 3 fun v => P 769 L (.int v :: st) h) := rfl
theorem e226_769 : exq sa F N S rt cd226 P Q 769 L st h = (P 770 L (.int (Int32.ofInt (1)) :: st) h) := rfl
theorem e226_770 : exq sa F N S rt cd226 P Q 770 L st h = (tI st fun b s => tI s fun a s => P 771 L (.int (a + b) :: s) h) := rfl
theorem e226_771 : exq sa F N S rt cd226 P Q 771 L st h = (ex1 sa F N S rt P Q 771 L st h (.iaload) 0 0 0 0) := rfl
theorem e226_772 : exq sa F N S rt cd226 P Q 772 L st h = (ex1 sa F N S rt P Q 772 L st h (.invokevirtual 97) 0 195 2 7) := rfl
theorem e226_775 : exq sa F N S rt cd226 P Q 775 L st h = (tI st fun b s => tI s fun a s => br (a = b) (P 1429 L s h) (P 778 L s h)) := rfl
theorem e226_778 : exq sa F N S rt cd226 P Q 778 L st h = (P 779 L (.int (Int32.ofInt (0)) :: st) h) := rfl
theorem e226_779 : exq sa F N S rt cd226 P Q 779 L st h = (tI st fun v s => s = [] ∧ (rt = some .int ∨ (rt = some .boolean ∧ (v = 0 ∨ v = 1))) ∧ Q (some (.int v)) h) := rfl
theorem e226_780 : exq sa F N S rt cd226 P Q 780 L st h = (ldR L 1 fun v => P 781 L (v :: st) h) := rfl
theorem e226_781 : exq sa F N S rt cd226 P Q 781 L st h = (ldR L 0 fun v => P 782 L (v :: st) h) := rfl
theorem e226_782 : exq sa F N S rt cd226 P Q 782 L st h = (ldI L 3 fun v => P 783 L (.int v :: st) h) := rfl
theorem e226_783 : exq sa F N S rt cd226 P Q 783 L st h = (P 784 L (.int (Int32.ofInt (1)) :: st) h) := rfl
theorem e226_784 : exq sa F N S rt cd226 P Q 784 L st h = (tI st fun b s => tI s fun a s => P 785 L (.int (a + b) :: s) h) := rfl
theorem e226_785 : exq sa F N S rt cd226 P Q 785 L st h = (ex1 sa F N S rt P Q 785 L st h (.iaload) 0 0 0 0) := rfl
theorem e226_786 : exq sa F N S rt cd226 P Q 786 L st h = (ex1 sa F N S rt P Q 786 L st h (.invokevirtual 98) 0 111 2 6) := rfl
theorem e226_789 : exq sa F N S rt cd226 P Q 789 L st h = (ldR L 2 fun v => P 790 L (v :: st) h) := rfl
theorem e226_790 : exq sa F N S rt cd226 P Q 790 L st h = (ldR L 0 fun v => P 791 L (v :: st) h) := rfl
theorem e226_791 : exq sa F N S rt cd226 P Q 791 L st h = (ldI L 3 fun v => P 792 L (.int v :: st) h) := rfl
theorem e226_792 : exq sa F N S rt cd226 P Q 792 L st h = (P 793 L (.int (Int32.ofInt (1)) :: st) h) := rfl
theorem e226_793 : exq sa F N S rt cd226 P Q 793 L st h = (tI st fun b s => tI s fun a s => P 794 L (.int (a + b) :: s) h) := rfl
theorem e226_794 : exq sa F N S rt cd226 P Q 794 L st h = (ex1 sa F N S rt P Q 794 L st h (.iaload) 0 0 0 0) := rfl
theorem e226_795 : exq sa F N S rt cd226 P Q 795 L st h = (ex1 sa F N S rt P Q 795 L st h (.invokevirtual 101) 0 196 2 7) := rfl
theorem e226_798 : exq sa F N S rt cd226 P Q 798 L st h = (tI st fun b s => tI s fun a s => br (a = b) (P 1429 L s h) (P 801 L s h)) := rfl
theorem e226_801 : exq sa F N S rt cd226 P Q 801 L st h = (P 802 L (.int (Int32.ofInt (0)) :: st) h) := rfl
theorem e226_802 : exq sa F N S rt cd226 P Q 802 L st h = (tI st fun v s => s = [] ∧ (rt = some .int ∨ (rt = some .boolean ∧ (v = 0 ∨ v = 1))) ∧ Q (some (.int v)) h) := rfl
theorem e226_803 : exq sa F N S rt cd226 P Q 803 L st h = (ldR L 1 fun v => P 804 L (v :: st) h) := rfl
theorem e226_804 : exq sa F N S rt cd226 P Q 804 L st h = (ldR L 0 fun v => P 805 L (v :: st) h) := rfl
theorem e226_805 : exq sa F N S rt cd226 P Q 805 L st h = (ldI L 3 fun v => P 806 L (.int v :: st) h) := rfl
theorem e226_806 : exq sa F N S rt cd226 P Q 806 L st h = (P 807 L (.int (Int32.ofInt (1)) :: st) h) := rfl
theorem e226_807 : exq sa F N S rt cd226 P Q 807 L st h = (tI st fun b s => tI s fun a s => P 808 L (.int (a + b) :: s) h) := rfl
theorem e226_808 : exq sa F N S rt cd226 P Q 808 L st h = (ex1 sa F N S rt P Q 808 L st h (.iaload) 0 0 0 0) := rfl
theorem e226_809 : exq sa F N S rt cd226 P Q 809 L st h = (ldR L 0 fun v => P 810 L (v :: st) h) := rfl
theorem e226_810 : exq sa F N S rt cd226 P Q 810 L st h = (ldI L 3 fun v => P 811 L (.int v :: st) h) := rfl
theorem e226_811 : exq sa F N S rt cd226 P Q 811 L st h = (P 812 L (.int (Int32.ofInt (2)) :: st) h) := rfl
theorem e226_812 : exq sa F N S rt cd226 P Q 812 L st h = (tI st fun b s => tI s fun a s => P 813 L (.int (a + b) :: s) h) := rfl
theorem e226_813 : exq sa F N S rt cd226 P Q 813 L st h = (ex1 sa F N S rt P Q 813 L st h (.iaload) 0 0 0 0) := rfl
theorem e226_814 : exq sa F N S rt cd226 P Q 814 L st h = (ex1 sa F N S rt P Q 814 L st h (.invokevirtual 102) 0 112 3 6) := rfl
theorem e226_817 : exq sa F N S rt cd226 P Q 817 L st h = (ldR L 2 fun v => P 818 L (v :: st) h) := rfl
theorem e226_818 : exq sa F N S rt cd226 P Q 818 L st h = (ldR L 0 fun v => P 819 L (v :: st) h) := rfl
theorem e226_819 : exq sa F N S rt cd226 P Q 819 L st h = (ldI L 3 fun v => P 820 L (.int v :: st) h) := rfl
theorem e226_820 : exq sa F N S rt cd226 P Q 820 L st h = (P 821 L (.int (Int32.ofInt (1)) :: st) h) := rfl
theorem e226_821 : exq sa F N S rt cd226 P Q 821 L st h = (tI st fun b s => tI s fun a s => P 822 L (.int (a + b) :: s) h) := rfl
theorem e226_822 : exq sa F N S rt cd226 P Q 822 L st h = (ex1 sa F N S rt P Q 822 L st h (.iaload) 0 0 0 0) := rfl
theorem e226_823 : exq sa F N S rt cd226 P Q 823 L st h = (ldR L 0 fun v => P 824 L (v :: st) h) := rfl
theorem e226_824 : exq sa F N S rt cd226 P Q 824 L st h = (ldI L 3 fun v => P 825 L (.int v :: st) h) := rfl
theorem e226_825 : exq sa F N S rt cd226 P Q 825 L st h = (P 826 L (.int (Int32.ofInt (2)) :: st) h) := rfl
theorem e226_826 : exq sa F N S rt cd226 P Q 826 L st h = (tI st fun b s => tI s fun a s => P 827 L (.int (a + b) :: s) h) := rfl
theorem e226_827 : exq sa F N S rt cd226 P Q 827 L st h = (ex1 sa F N S rt P Q 827 L st h (.iaload) 0 0 0 0) := rfl
theorem e226_828 : exq sa F N S rt cd226 P Q 828 L st h = (ex1 sa F N S rt P Q 828 L st h (.invokevirtual 105) 0 197 3 7) := rfl
theorem e226_831 : exq sa F N S rt cd226 P Q 831 L st h = (tI st fun b s => tI s fun a s => br (a = b) (P 1429 L s h) (P 834 L s h)) := rfl
theorem e226_834 : exq sa F N S rt cd226 P Q 834 L st h = (P 835 L (.int (Int32.ofInt (0)) :: st) h) := rfl
theorem e226_835 : exq sa F N S rt cd226 P Q 835 L st h = (tI st fun v s => s = [] ∧ (rt = some .int ∨ (rt = some .boolean ∧ (v = 0 ∨ v = 1))) ∧ Q (some (.int v)) h) := rfl
theorem e226_836 : exq sa F N S rt cd226 P Q 836 L st h = (ldR L 1 fun v => P 837 L (v :: st) h) := rfl
theorem e226_837 : exq sa F N S rt cd226 P Q 837 L st h = (ldR L 0 fun v => P 838 L (v :: st) h) := rfl
theorem e226_838 : exq sa F N S rt cd226 P Q 838 L st h = (ldI L 3 fun v => P 839 L (.int v :: st) h) := rfl
theorem e226_839 : exq sa F N S rt cd226 P Q 839 L st h = (P 840 L (.int (Int32.ofInt (1)) :: st) h) := rfl
theorem e226_840 : exq sa F N S rt cd226 P Q 840 L st h = (tI st fun b s => tI s fun a s => P 841 L (.int (a + b) :: s) h) := rfl
theorem e226_841 : exq sa F N S rt cd226 P Q 841 L st h = (ex1 sa F N S rt P Q 841 L st h (.iaload) 0 0 0 0) := rfl
theorem e226_842 : exq sa F N S rt cd226 P Q 842 L st h = (ldR L 0 fun v => P 843 L (v :: st) h) := rfl
theorem e226_843 : exq sa F N S rt cd226 P Q 843 L st h = (ldI L 3 fun v => P 844 L (.int v :: st) h) := rfl
theorem e226_844 : exq sa F N S rt cd226 P Q 844 L st h = (P 845 L (.int (Int32.ofInt (2)) :: st) h) := rfl
theorem e226_845 : exq sa F N S rt cd226 P Q 845 L st h = (tI st fun b s => tI s fun a s => P 846 L (.int (a + b) :: s) h) := rfl
theorem e226_846 : exq sa F N S rt cd226 P Q 846 L st h = (ex1 sa F N S rt P Q 846 L st h (.iaload) 0 0 0 0) := rfl
theorem e226_847 : exq sa F N S rt cd226 P Q 847 L st h = (ldR L 0 fun v => P 848 L (v :: st) h) := rfl
theorem e226_848 : exq sa F N S rt cd226 P Q 848 L st h = (ldI L 3 fun v => P 849 L (.int v :: st) h) := rfl
theorem e226_849 : exq sa F N S rt cd226 P Q 849 L st h = (P 850 L (.int (Int32.ofInt (3)) :: st) h) := rfl
theorem e226_850 : exq sa F N S rt cd226 P Q 850 L st h = (tI st fun b s => tI s fun a s => P 851 L (.int (a + b) :: s) h) := rfl
theorem e226_851 : exq sa F N S rt cd226 P Q 851 L st h = (ex1 sa F N S rt P Q 851 L st h (.iaload) 0 0 0 0) := rfl
theorem e226_852 : exq sa F N S rt cd226 P Q 852 L st h = (ex1 sa F N S rt P Q 852 L st h (.invokevirtual 106) 0 113 4 6) := rfl
theorem e226_855 : exq sa F N S rt cd226 P Q 855 L st h = (ldR L 2 fun v => P 856 L (v :: st) h) := rfl
theorem e226_856 : exq sa F N S rt cd226 P Q 856 L st h = (ldR L 0 fun v => P 857 L (v :: st) h) := rfl
theorem e226_857 : exq sa F N S rt cd226 P Q 857 L st h = (ldI L 3 fun v => P 858 L (.int v :: st) h) := rfl
theorem e226_858 : exq sa F N S rt cd226 P Q 858 L st h = (P 859 L (.int (Int32.ofInt (1)) :: st) h) := rfl
theorem e226_859 : exq sa F N S rt cd226 P Q 859 L st h = (tI st fun b s => tI s fun a s => P 860 L (.int (a + b) :: s) h) := rfl
theorem e226_860 : exq sa F N S rt cd226 P Q 860 L st h = (ex1 sa F N S rt P Q 860 L st h (.iaload) 0 0 0 0) := rfl
theorem e226_861 : exq sa F N S rt cd226 P Q 861 L st h = (ldR L 0 fun v => P 862 L (v :: st) h) := rfl
theorem e226_862 : exq sa F N S rt cd226 P Q 862 L st h = (ldI L 3 fun v => P 863 L (.int v :: st) h) := rfl
theorem e226_863 : exq sa F N S rt cd226 P Q 863 L st h = (P 864 L (.int (Int32.ofInt (2)) :: st) h) := rfl
theorem e226_864 : exq sa F N S rt cd226 P Q 864 L st h = (tI st fun b s => tI s fun a s => P 865 L (.int (a + b) :: s) h) := rfl
theorem e226_865 : exq sa F N S rt cd226 P Q 865 L st h = (ex1 sa F N S rt P Q 865 L st h (.iaload) 0 0 0 0) := rfl
theorem e226_866 : exq sa F N S rt cd226 P Q 866 L st h = (ldR L 0 fun v => P 867 L (v :: st) h) := rfl
theorem e226_867 : exq sa F N S rt cd226 P Q 867 L st h = (ldI L 3 fun v => P 868 L (.int v :: st) h) := rfl
theorem e226_868 : exq sa F N S rt cd226 P Q 868 L st h = (P 869 L (.int (Int32.ofInt (3)) :: st) h) := rfl
theorem e226_869 : exq sa F N S rt cd226 P Q 869 L st h = (tI st fun b s => tI s fun a s => P 870 L (.int (a + b) :: s) h) := rfl
theorem e226_870 : exq sa F N S rt cd226 P Q 870 L st h = (ex1 sa F N S rt P Q 870 L st h (.iaload) 0 0 0 0) := rfl
theorem e226_871 : exq sa F N S rt cd226 P Q 871 L st h = (ex1 sa F N S rt P Q 871 L st h (.invokevirtual 109) 0 199 4 7) := rfl
theorem e226_874 : exq sa F N S rt cd226 P Q 874 L st h = (tI st fun b s => tI s fun a s => br (a = b) (P 1429 L s h) (P 877 L s h)) := rfl
theorem e226_877 : exq sa F N S rt cd226 P Q 877 L st h = (P 878 L (.int (Int32.ofInt (0)) :: st) h) := rfl
theorem e226_878 : exq sa F N S rt cd226 P Q 878 L st h = (tI st fun v s => s = [] ∧ (rt = some .int ∨ (rt = some .boolean ∧ (v = 0 ∨ v = 1))) ∧ Q (some (.int v)) h) := rfl
theorem e226_879 : exq sa F N S rt cd226 P Q 879 L st h = (ldR L 1 fun v => P 880 L (v :: st) h) := rfl
theorem e226_880 : exq sa F N S rt cd226 P Q 880 L st h = (ldR L 0 fun v => P 881 L (v :: st) h) := rfl
theorem e226_881 : exq sa F N S rt cd226 P Q 881 L st h = (ldI L 3 fun v => P 882 L (.int v :: st) h) := rfl
theorem e226_882 : exq sa F N S rt cd226 P Q 882 L st h = (P 883 L (.int (Int32.ofInt (1)) :: st) h) := rfl
theorem e226_883 : exq sa F N S rt cd226 P Q 883 L st h = (tI st fun b s => tI s fun a s => P 884 L (.int (a + b) :: s) h) := rfl
theorem e226_884 : exq sa F N S rt cd226 P Q 884 L st h = (ex1 sa F N S rt P Q 884 L st h (.iaload) 0 0 0 0) := rfl
theorem e226_885 : exq sa F N S rt cd226 P Q 885 L st h = (ldR L 0 fun v => P 886 L (v :: st) h) := rfl
theorem e226_886 : exq sa F N S rt cd226 P Q 886 L st h = (ldI L 3 fun v => P 887 L (.int v :: st) h) := rfl
theorem e226_887 : exq sa F N S rt cd226 P Q 887 L st h = (P 888 L (.int (Int32.ofInt (2)) :: st) h) := rfl
theorem e226_888 : exq sa F N S rt cd226 P Q 888 L st h = (tI st fun b s => tI s fun a s => P 889 L (.int (a + b) :: s) h) := rfl
theorem e226_889 : exq sa F N S rt cd226 P Q 889 L st h = (ex1 sa F N S rt P Q 889 L st h (.iaload) 0 0 0 0) := rfl
theorem e226_890 : exq sa F N S rt cd226 P Q 890 L st h = (ldR L 0 fun v => P 891 L (v :: st) h) := rfl
theorem e226_891 : exq sa F N S rt cd226 P Q 891 L st h = (ldI L 3 fun v => P 892 L (.int v :: st) h) := rfl
theorem e226_892 : exq sa F N S rt cd226 P Q 892 L st h = (P 893 L (.int (Int32.ofInt (3)) :: st) h) := rfl
theorem e226_893 : exq sa F N S rt cd226 P Q 893 L st h = (tI st fun b s => tI s fun a s => P 894 L (.int (a + b) :: s) h) := rfl
theorem e226_894 : exq sa F N S rt cd226 P Q 894 L st h = (ex1 sa F N S rt P Q 894 L st h (.iaload) 0 0 0 0) := rfl
theorem e226_895 : exq sa F N S rt cd226 P Q 895 L st h = (ex1 sa F N S rt P Q 895 L st h (.invokevirtual 110) 0 114 4 6) := rfl
theorem e226_898 : exq sa F N S rt cd226 P Q 898 L st h = (ldR L 2 fun v => P 899 L (v :: st) h) := rfl
theorem e226_899 : exq sa F N S rt cd226 P Q 899 L st h = (ldR L 0 fun v => P 900 L (v :: st) h) := rfl
theorem e226_900 : exq sa F N S rt cd226 P Q 900 L st h = (ldI L 3 fun v => P 901 L (.int v :: st) h) := rfl
theorem e226_901 : exq sa F N S rt cd226 P Q 901 L st h = (P 902 L (.int (Int32.ofInt (1)) :: st) h) := rfl
theorem e226_902 : exq sa F N S rt cd226 P Q 902 L st h = (tI st fun b s => tI s fun a s => P 903 L (.int (a + b) :: s) h) := rfl
theorem e226_903 : exq sa F N S rt cd226 P Q 903 L st h = (ex1 sa F N S rt P Q 903 L st h (.iaload) 0 0 0 0) := rfl
theorem e226_904 : exq sa F N S rt cd226 P Q 904 L st h = (ldR L 0 fun v => P 905 L (v :: st) h) := rfl
theorem e226_905 : exq sa F N S rt cd226 P Q 905 L st h = (ldI L 3 fun v => P 906 L (.int v :: st) h) := rfl
theorem e226_906 : exq sa F N S rt cd226 P Q 906 L st h = (P 907 L (.int (Int32.ofInt (2)) :: st) h) := rfl
theorem e226_907 : exq sa F N S rt cd226 P Q 907 L st h = (tI st fun b s => tI s fun a s => P 908 L (.int (a + b) :: s) h) := rfl
theorem e226_908 : exq sa F N S rt cd226 P Q 908 L st h = (ex1 sa F N S rt P Q 908 L st h (.iaload) 0 0 0 0) := rfl
theorem e226_909 : exq sa F N S rt cd226 P Q 909 L st h = (ldR L 0 fun v => P 910 L (v :: st) h) := rfl
theorem e226_910 : exq sa F N S rt cd226 P Q 910 L st h = (ldI L 3 fun v => P 911 L (.int v :: st) h) := rfl
theorem e226_911 : exq sa F N S rt cd226 P Q 911 L st h = (P 912 L (.int (Int32.ofInt (3)) :: st) h) := rfl
theorem e226_912 : exq sa F N S rt cd226 P Q 912 L st h = (tI st fun b s => tI s fun a s => P 913 L (.int (a + b) :: s) h) := rfl
theorem e226_913 : exq sa F N S rt cd226 P Q 913 L st h = (ex1 sa F N S rt P Q 913 L st h (.iaload) 0 0 0 0) := rfl
theorem e226_914 : exq sa F N S rt cd226 P Q 914 L st h = (ex1 sa F N S rt P Q 914 L st h (.invokevirtual 113) 0 200 4 7) := rfl
theorem e226_917 : exq sa F N S rt cd226 P Q 917 L st h = (tI st fun b s => tI s fun a s => br (a = b) (P 1429 L s h) (P 920 L s h)) := rfl
theorem e226_920 : exq sa F N S rt cd226 P Q 920 L st h = (P 921 L (.int (Int32.ofInt (0)) :: st) h) := rfl
theorem e226_921 : exq sa F N S rt cd226 P Q 921 L st h = (tI st fun v s => s = [] ∧ (rt = some .int ∨ (rt = some .boolean ∧ (v = 0 ∨ v = 1))) ∧ Q (some (.int v)) h) := rfl
theorem e226_922 : exq sa F N S rt cd226 P Q 922 L st h = (ldR L 1 fun v => P 923 L (v :: st) h) := rfl
theorem e226_923 : exq sa F N S rt cd226 P Q 923 L st h = (ldR L 0 fun v => P 924 L (v :: st) h) := rfl
theorem e226_924 : exq sa F N S rt cd226 P Q 924 L st h = (ldI L 3 fun v => P 925 L (.int v :: st) h) := rfl
theorem e226_925 : exq sa F N S rt cd226 P Q 925 L st h = (P 926 L (.int (Int32.ofInt (1)) :: st) h) := rfl
theorem e226_926 : exq sa F N S rt cd226 P Q 926 L st h = (tI st fun b s => tI s fun a s => P 927 L (.int (a + b) :: s) h) := rfl
theorem e226_927 : exq sa F N S rt cd226 P Q 927 L st h = (ex1 sa F N S rt P Q 927 L st h (.iaload) 0 0 0 0) := rfl
theorem e226_928 : exq sa F N S rt cd226 P Q 928 L st h = (ldR L 0 fun v => P 929 L (v :: st) h) := rfl
theorem e226_929 : exq sa F N S rt cd226 P Q 929 L st h = (ldI L 3 fun v => P 930 L (.int v :: st) h) := rfl
theorem e226_930 : exq sa F N S rt cd226 P Q 930 L st h = (P 931 L (.int (Int32.ofInt (2)) :: st) h) := rfl
theorem e226_931 : exq sa F N S rt cd226 P Q 931 L st h = (tI st fun b s => tI s fun a s => P 932 L (.int (a + b) :: s) h) := rfl
theorem e226_932 : exq sa F N S rt cd226 P Q 932 L st h = (ex1 sa F N S rt P Q 932 L st h (.iaload) 0 0 0 0) := rfl
theorem e226_933 : exq sa F N S rt cd226 P Q 933 L st h = (ex1 sa F N S rt P Q 933 L st h (.invokevirtual 114) 0 115 3 6) := rfl
theorem e226_936 : exq sa F N S rt cd226 P Q 936 L st h = (ldR L 2 fun v => P 937 L (v :: st) h) := rfl
theorem e226_937 : exq sa F N S rt cd226 P Q 937 L st h = (ldR L 0 fun v => P 938 L (v :: st) h) := rfl
theorem e226_938 : exq sa F N S rt cd226 P Q 938 L st h = (ldI L 3 fun v => P 939 L (.int v :: st) h) := rfl
theorem e226_939 : exq sa F N S rt cd226 P Q 939 L st h = (P 940 L (.int (Int32.ofInt (1)) :: st) h) := rfl
theorem e226_940 : exq sa F N S rt cd226 P Q 940 L st h = (tI st fun b s => tI s fun a s => P 941 L (.int (a + b) :: s) h) := rfl
theorem e226_941 : exq sa F N S rt cd226 P Q 941 L st h = (ex1 sa F N S rt P Q 941 L st h (.iaload) 0 0 0 0) := rfl
theorem e226_942 : exq sa F N S rt cd226 P Q 942 L st h = (ldR L 0 fun v => P 943 L (v :: st) h) := rfl
theorem e226_943 : exq sa F N S rt cd226 P Q 943 L st h = (ldI L 3 fun v => P 944 L (.int v :: st) h) := rfl
theorem e226_944 : exq sa F N S rt cd226 P Q 944 L st h = (P 945 L (.int (Int32.ofInt (2)) :: st) h) := rfl
theorem e226_945 : exq sa F N S rt cd226 P Q 945 L st h = (tI st fun b s => tI s fun a s => P 946 L (.int (a + b) :: s) h) := rfl
theorem e226_946 : exq sa F N S rt cd226 P Q 946 L st h = (ex1 sa F N S rt P Q 946 L st h (.iaload) 0 0 0 0) := rfl
theorem e226_947 : exq sa F N S rt cd226 P Q 947 L st h = (ex1 sa F N S rt P Q 947 L st h (.invokevirtual 117) 0 201 3 7) := rfl
theorem e226_950 : exq sa F N S rt cd226 P Q 950 L st h = (tI st fun b s => tI s fun a s => br (a = b) (P 1429 L s h) (P 953 L s h)) := rfl
theorem e226_953 : exq sa F N S rt cd226 P Q 953 L st h = (P 954 L (.int (Int32.ofInt (0)) :: st) h) := rfl
theorem e226_954 : exq sa F N S rt cd226 P Q 954 L st h = (tI st fun v s => s = [] ∧ (rt = some .int ∨ (rt = some .boolean ∧ (v = 0 ∨ v = 1))) ∧ Q (some (.int v)) h) := rfl
theorem e226_955 : exq sa F N S rt cd226 P Q 955 L st h = (ldR L 1 fun v => P 956 L (v :: st) h) := rfl
theorem e226_956 : exq sa F N S rt cd226 P Q 956 L st h = (ldR L 0 fun v => P 957 L (v :: st) h) := rfl
theorem e226_957 : exq sa F N S rt cd226 P Q 957 L st h = (ldI L 3 fun v => P 958 L (.int v :: st) h) := rfl
theorem e226_958 : exq sa F N S rt cd226 P Q 958 L st h = (P 959 L (.int (Int32.ofInt (1)) :: st) h) := rfl
theorem e226_959 : exq sa F N S rt cd226 P Q 959 L st h = (tI st fun b s => tI s fun a s => P 960 L (.int (a + b) :: s) h) := rfl
theorem e226_960 : exq sa F N S rt cd226 P Q 960 L st h = (ex1 sa F N S rt P Q 960 L st h (.iaload) 0 0 0 0) := rfl
theorem e226_961 : exq sa F N S rt cd226 P Q 961 L st h = (ldR L 0 fun v => P 962 L (v :: st) h) := rfl
theorem e226_962 : exq sa F N S rt cd226 P Q 962 L st h = (ldI L 3 fun v => P 963 L (.int v :: st) h) := rfl
theorem e226_963 : exq sa F N S rt cd226 P Q 963 L st h = (P 964 L (.int (Int32.ofInt (2)) :: st) h) := rfl
theorem e226_964 : exq sa F N S rt cd226 P Q 964 L st h = (tI st fun b s => tI s fun a s => P 965 L (.int (a + b) :: s) h) := rfl
theorem e226_965 : exq sa F N S rt cd226 P Q 965 L st h = (ex1 sa F N S rt P Q 965 L st h (.iaload) 0 0 0 0) := rfl
theorem e226_966 : exq sa F N S rt cd226 P Q 966 L st h = (ex1 sa F N S rt P Q 966 L st h (.invokevirtual 118) 0 116 3 6) := rfl
theorem e226_969 : exq sa F N S rt cd226 P Q 969 L st h = (ldR L 2 fun v => P 970 L (v :: st) h) := rfl
theorem e226_970 : exq sa F N S rt cd226 P Q 970 L st h = (ldR L 0 fun v => P 971 L (v :: st) h) := rfl
theorem e226_971 : exq sa F N S rt cd226 P Q 971 L st h = (ldI L 3 fun v => P 972 L (.int v :: st) h) := rfl
theorem e226_972 : exq sa F N S rt cd226 P Q 972 L st h = (P 973 L (.int (Int32.ofInt (1)) :: st) h) := rfl
theorem e226_973 : exq sa F N S rt cd226 P Q 973 L st h = (tI st fun b s => tI s fun a s => P 974 L (.int (a + b) :: s) h) := rfl
theorem e226_974 : exq sa F N S rt cd226 P Q 974 L st h = (ex1 sa F N S rt P Q 974 L st h (.iaload) 0 0 0 0) := rfl
theorem e226_975 : exq sa F N S rt cd226 P Q 975 L st h = (ldR L 0 fun v => P 976 L (v :: st) h) := rfl
theorem e226_976 : exq sa F N S rt cd226 P Q 976 L st h = (ldI L 3 fun v => P 977 L (.int v :: st) h) := rfl
theorem e226_977 : exq sa F N S rt cd226 P Q 977 L st h = (P 978 L (.int (Int32.ofInt (2)) :: st) h) := rfl
theorem e226_978 : exq sa F N S rt cd226 P Q 978 L st h = (tI st fun b s => tI s fun a s => P 979 L (.int (a + b) :: s) h) := rfl
theorem e226_979 : exq sa F N S rt cd226 P Q 979 L st h = (ex1 sa F N S rt P Q 979 L st h (.iaload) 0 0 0 0) := rfl
theorem e226_980 : exq sa F N S rt cd226 P Q 980 L st h = (ex1 sa F N S rt P Q 980 L st h (.invokevirtual 121) 0 202 3 7) := rfl
theorem e226_983 : exq sa F N S rt cd226 P Q 983 L st h = (tI st fun b s => tI s fun a s => br (a = b) (P 1429 L s h) (P 986 L s h)) := rfl
theorem e226_986 : exq sa F N S rt cd226 P Q 986 L st h = (P 987 L (.int (Int32.ofInt (0)) :: st) h) := rfl
theorem e226_987 : exq sa F N S rt cd226 P Q 987 L st h = (tI st fun v s => s = [] ∧ (rt = some .int ∨ (rt = some .boolean ∧ (v = 0 ∨ v = 1))) ∧ Q (some (.int v)) h) := rfl
theorem e226_988 : exq sa F N S rt cd226 P Q 988 L st h = (ldR L 1 fun v => P 989 L (v :: st) h) := rfl
theorem e226_989 : exq sa F N S rt cd226 P Q 989 L st h = (ldR L 0 fun v => P 990 L (v :: st) h) := rfl
theorem e226_990 : exq sa F N S rt cd226 P Q 990 L st h = (ldI L 3 fun v => P 991 L (.int v :: st) h) := rfl
theorem e226_991 : exq sa F N S rt cd226 P Q 991 L st h = (P 992 L (.int (Int32.ofInt (1)) :: st) h) := rfl
theorem e226_992 : exq sa F N S rt cd226 P Q 992 L st h = (tI st fun b s => tI s fun a s => P 993 L (.int (a + b) :: s) h) := rfl
theorem e226_993 : exq sa F N S rt cd226 P Q 993 L st h = (ex1 sa F N S rt P Q 993 L st h (.iaload) 0 0 0 0) := rfl
theorem e226_994 : exq sa F N S rt cd226 P Q 994 L st h = (ldR L 0 fun v => P 995 L (v :: st) h) := rfl
theorem e226_995 : exq sa F N S rt cd226 P Q 995 L st h = (ldI L 3 fun v => P 996 L (.int v :: st) h) := rfl
theorem e226_996 : exq sa F N S rt cd226 P Q 996 L st h = (P 997 L (.int (Int32.ofInt (2)) :: st) h) := rfl
theorem e226_997 : exq sa F N S rt cd226 P Q 997 L st h = (tI st fun b s => tI s fun a s => P 998 L (.int (a + b) :: s) h) := rfl
theorem e226_998 : exq sa F N S rt cd226 P Q 998 L st h = (ex1 sa F N S rt P Q 998 L st h (.iaload) 0 0 0 0) := rfl
theorem e226_999 : exq sa F N S rt cd226 P Q 999 L st h = (ldR L 0 fun v => P 1000 L (v :: st) h) := rfl
theorem e226_1000 : exq sa F N S rt cd226 P Q 1000 L st h = (ldI L 3 fun v => P 1001 L (.int v :: st) h) := rfl
theorem e226_1001 : exq sa F N S rt cd226 P Q 1001 L st h = (P 1002 L (.int (Int32.ofInt (3)) :: st) h) := rfl
theorem e226_1002 : exq sa F N S rt cd226 P Q 1002 L st h = (tI st fun b s => tI s fun a s => P 1003 L (.int (a + b) :: s) h) := rfl
theorem e226_1003 : exq sa F N S rt cd226 P Q 1003 L st h = (ex1 sa F N S rt P Q 1003 L st h (.iaload) 0 0 0 0) := rfl
theorem e226_1004 : exq sa F N S rt cd226 P Q 1004 L st h = (ldR L 0 fun v => P 1005 L (v :: st) h) := rfl
theorem e226_1005 : exq sa F N S rt cd226 P Q 1005 L st h = (ldI L 3 fun v => P 1006 L (.int v :: st) h) := rfl
theorem e226_1006 : exq sa F N S rt cd226 P Q 1006 L st h = (P 1007 L (.int (Int32.ofInt (4)) :: st) h) := rfl
theorem e226_1007 : exq sa F N S rt cd226 P Q 1007 L st h = (tI st fun b s => tI s fun a s => P 1008 L (.int (a + b) :: s) h) := rfl
theorem e226_1008 : exq sa F N S rt cd226 P Q 1008 L st h = (ex1 sa F N S rt P Q 1008 L st h (.iaload) 0 0 0 0) := rfl
theorem e226_1009 : exq sa F N S rt cd226 P Q 1009 L st h = (ldR L 0 fun v => P 1010 L (v :: st) h) := rfl
theorem e226_1010 : exq sa F N S rt cd226 P Q 1010 L st h = (ldI L 3 fun v => P 1011 L (.int v :: st) h) := rfl
theorem e226_1011 : exq sa F N S rt cd226 P Q 1011 L st h = (P 1012 L (.int (Int32.ofInt (5)) :: st) h) := rfl
theorem e226_1012 : exq sa F N S rt cd226 P Q 1012 L st h = (tI st fun b s => tI s fun a s => P 1013 L (.int (a + b) :: s) h) := rfl
theorem e226_1013 : exq sa F N S rt cd226 P Q 1013 L st h = (ex1 sa F N S rt P Q 1013 L st h (.iaload) 0 0 0 0) := rfl
theorem e226_1014 : exq sa F N S rt cd226 P Q 1014 L st h = (ldR L 0 fun v => P 1015 L (v :: st) h) := rfl
theorem e226_1015 : exq sa F N S rt cd226 P Q 1015 L st h = (ldI L 3 fun v => P 1016 L (.int v :: st) h) := rfl
theorem e226_1016 : exq sa F N S rt cd226 P Q 1016 L st h = (P 1018 L (.int (Int32.ofInt (6)) :: st) h) := rfl
theorem e226_1018 : exq sa F N S rt cd226 P Q 1018 L st h = (tI st fun b s => tI s fun a s => P 1019 L (.int (a + b) :: s) h) := rfl
theorem e226_1019 : exq sa F N S rt cd226 P Q 1019 L st h = (ex1 sa F N S rt P Q 1019 L st h (.iaload) 0 0 0 0) := rfl
theorem e226_1020 : exq sa F N S rt cd226 P Q 1020 L st h = (ex1 sa F N S rt P Q 1020 L st h (.invokevirtual 122) 0 117 7 6) := rfl
theorem e226_1023 : exq sa F N S rt cd226 P Q 1023 L st h = (ldR L 2 fun v => P 1024 L (v :: st) h) := rfl
theorem e226_1024 : exq sa F N S rt cd226 P Q 1024 L st h = (ldR L 0 fun v => P 1025 L (v :: st) h) := rfl
theorem e226_1025 : exq sa F N S rt cd226 P Q 1025 L st h = (ldI L 3 fun v => P 1026 L (.int v :: st) h) := rfl
theorem e226_1026 : exq sa F N S rt cd226 P Q 1026 L st h = (P 1027 L (.int (Int32.ofInt (1)) :: st) h) := rfl
theorem e226_1027 : exq sa F N S rt cd226 P Q 1027 L st h = (tI st fun b s => tI s fun a s => P 1028 L (.int (a + b) :: s) h) := rfl
theorem e226_1028 : exq sa F N S rt cd226 P Q 1028 L st h = (ex1 sa F N S rt P Q 1028 L st h (.iaload) 0 0 0 0) := rfl
theorem e226_1029 : exq sa F N S rt cd226 P Q 1029 L st h = (ldR L 0 fun v => P 1030 L (v :: st) h) := rfl
theorem e226_1030 : exq sa F N S rt cd226 P Q 1030 L st h = (ldI L 3 fun v => P 1031 L (.int v :: st) h) := rfl
theorem e226_1031 : exq sa F N S rt cd226 P Q 1031 L st h = (P 1032 L (.int (Int32.ofInt (2)) :: st) h) := rfl
theorem e226_1032 : exq sa F N S rt cd226 P Q 1032 L st h = (tI st fun b s => tI s fun a s => P 1033 L (.int (a + b) :: s) h) := rfl
theorem e226_1033 : exq sa F N S rt cd226 P Q 1033 L st h = (ex1 sa F N S rt P Q 1033 L st h (.iaload) 0 0 0 0) := rfl
theorem e226_1034 : exq sa F N S rt cd226 P Q 1034 L st h = (ldR L 0 fun v => P 1035 L (v :: st) h) := rfl
theorem e226_1035 : exq sa F N S rt cd226 P Q 1035 L st h = (ldI L 3 fun v => P 1036 L (.int v :: st) h) := rfl
theorem e226_1036 : exq sa F N S rt cd226 P Q 1036 L st h = (P 1037 L (.int (Int32.ofInt (3)) :: st) h) := rfl
theorem e226_1037 : exq sa F N S rt cd226 P Q 1037 L st h = (tI st fun b s => tI s fun a s => P 1038 L (.int (a + b) :: s) h) := rfl
theorem e226_1038 : exq sa F N S rt cd226 P Q 1038 L st h = (ex1 sa F N S rt P Q 1038 L st h (.iaload) 0 0 0 0) := rfl
theorem e226_1039 : exq sa F N S rt cd226 P Q 1039 L st h = (ldR L 0 fun v => P 1040 L (v :: st) h) := rfl
theorem e226_1040 : exq sa F N S rt cd226 P Q 1040 L st h = (ldI L 3 fun v => P 1041 L (.int v :: st) h) := rfl
theorem e226_1041 : exq sa F N S rt cd226 P Q 1041 L st h = (P 1042 L (.int (Int32.ofInt (4)) :: st) h) := rfl
theorem e226_1042 : exq sa F N S rt cd226 P Q 1042 L st h = (tI st fun b s => tI s fun a s => P 1043 L (.int (a + b) :: s) h) := rfl
theorem e226_1043 : exq sa F N S rt cd226 P Q 1043 L st h = (ex1 sa F N S rt P Q 1043 L st h (.iaload) 0 0 0 0) := rfl
theorem e226_1044 : exq sa F N S rt cd226 P Q 1044 L st h = (ldR L 0 fun v => P 1045 L (v :: st) h) := rfl
theorem e226_1045 : exq sa F N S rt cd226 P Q 1045 L st h = (ldI L 3 fun v => P 1046 L (.int v :: st) h) := rfl
theorem e226_1046 : exq sa F N S rt cd226 P Q 1046 L st h = (P 1047 L (.int (Int32.ofInt (5)) :: st) h) := rfl
theorem e226_1047 : exq sa F N S rt cd226 P Q 1047 L st h = (tI st fun b s => tI s fun a s => P 1048 L (.int (a + b) :: s) h) := rfl
theorem e226_1048 : exq sa F N S rt cd226 P Q 1048 L st h = (ex1 sa F N S rt P Q 1048 L st h (.iaload) 0 0 0 0) := rfl
theorem e226_1049 : exq sa F N S rt cd226 P Q 1049 L st h = (ldR L 0 fun v => P 1050 L (v :: st) h) := rfl
theorem e226_1050 : exq sa F N S rt cd226 P Q 1050 L st h = (ldI L 3 fun v => P 1051 L (.int v :: st) h) := rfl
theorem e226_1051 : exq sa F N S rt cd226 P Q 1051 L st h = (P 1053 L (.int (Int32.ofInt (6)) :: st) h) := rfl
theorem e226_1053 : exq sa F N S rt cd226 P Q 1053 L st h = (tI st fun b s => tI s fun a s => P 1054 L (.int (a + b) :: s) h) := rfl
theorem e226_1054 : exq sa F N S rt cd226 P Q 1054 L st h = (ex1 sa F N S rt P Q 1054 L st h (.iaload) 0 0 0 0) := rfl
theorem e226_1055 : exq sa F N S rt cd226 P Q 1055 L st h = (ex1 sa F N S rt P Q 1055 L st h (.invokevirtual 126) 0 204 7 7) := rfl
theorem e226_1058 : exq sa F N S rt cd226 P Q 1058 L st h = (tI st fun b s => tI s fun a s => br (a = b) (P 1429 L s h) (P 1061 L s h)) := rfl
theorem e226_1061 : exq sa F N S rt cd226 P Q 1061 L st h = (P 1062 L (.int (Int32.ofInt (0)) :: st) h) := rfl
theorem e226_1062 : exq sa F N S rt cd226 P Q 1062 L st h = (tI st fun v s => s = [] ∧ (rt = some .int ∨ (rt = some .boolean ∧ (v = 0 ∨ v = 1))) ∧ Q (some (.int v)) h) := rfl
theorem e226_1063 : exq sa F N S rt cd226 P Q 1063 L st h = (ldR L 1 fun v => P 1064 L (v :: st) h) := rfl
theorem e226_1064 : exq sa F N S rt cd226 P Q 1064 L st h = (ldR L 0 fun v => P 1065 L (v :: st) h) := rfl
theorem e226_1065 : exq sa F N S rt cd226 P Q 1065 L st h = (ldI L 3 fun v => P 1066 L (.int v :: st) h) := rfl
theorem e226_1066 : exq sa F N S rt cd226 P Q 1066 L st h = (P 1067 L (.int (Int32.ofInt (1)) :: st) h) := rfl
theorem e226_1067 : exq sa F N S rt cd226 P Q 1067 L st h = (tI st fun b s => tI s fun a s => P 1068 L (.int (a + b) :: s) h) := rfl
theorem e226_1068 : exq sa F N S rt cd226 P Q 1068 L st h = (ex1 sa F N S rt P Q 1068 L st h (.iaload) 0 0 0 0) := rfl
theorem e226_1069 : exq sa F N S rt cd226 P Q 1069 L st h = (ldR L 0 fun v => P 1070 L (v :: st) h) := rfl
theorem e226_1070 : exq sa F N S rt cd226 P Q 1070 L st h = (ldI L 3 fun v => P 1071 L (.int v :: st) h) := rfl
theorem e226_1071 : exq sa F N S rt cd226 P Q 1071 L st h = (P 1072 L (.int (Int32.ofInt (2)) :: st) h) := rfl
theorem e226_1072 : exq sa F N S rt cd226 P Q 1072 L st h = (tI st fun b s => tI s fun a s => P 1073 L (.int (a + b) :: s) h) := rfl
theorem e226_1073 : exq sa F N S rt cd226 P Q 1073 L st h = (ex1 sa F N S rt P Q 1073 L st h (.iaload) 0 0 0 0) := rfl
theorem e226_1074 : exq sa F N S rt cd226 P Q 1074 L st h = (ldR L 0 fun v => P 1075 L (v :: st) h) := rfl
theorem e226_1075 : exq sa F N S rt cd226 P Q 1075 L st h = (ldI L 3 fun v => P 1076 L (.int v :: st) h) := rfl
theorem e226_1076 : exq sa F N S rt cd226 P Q 1076 L st h = (P 1077 L (.int (Int32.ofInt (3)) :: st) h) := rfl
theorem e226_1077 : exq sa F N S rt cd226 P Q 1077 L st h = (tI st fun b s => tI s fun a s => P 1078 L (.int (a + b) :: s) h) := rfl
theorem e226_1078 : exq sa F N S rt cd226 P Q 1078 L st h = (ex1 sa F N S rt P Q 1078 L st h (.iaload) 0 0 0 0) := rfl
theorem e226_1079 : exq sa F N S rt cd226 P Q 1079 L st h = (ldR L 0 fun v => P 1080 L (v :: st) h) := rfl
theorem e226_1080 : exq sa F N S rt cd226 P Q 1080 L st h = (ldI L 3 fun v => P 1081 L (.int v :: st) h) := rfl
theorem e226_1081 : exq sa F N S rt cd226 P Q 1081 L st h = (P 1082 L (.int (Int32.ofInt (4)) :: st) h) := rfl
theorem e226_1082 : exq sa F N S rt cd226 P Q 1082 L st h = (tI st fun b s => tI s fun a s => P 1083 L (.int (a + b) :: s) h) := rfl
theorem e226_1083 : exq sa F N S rt cd226 P Q 1083 L st h = (ex1 sa F N S rt P Q 1083 L st h (.iaload) 0 0 0 0) := rfl
theorem e226_1084 : exq sa F N S rt cd226 P Q 1084 L st h = (ldR L 0 fun v => P 1085 L (v :: st) h) := rfl
theorem e226_1085 : exq sa F N S rt cd226 P Q 1085 L st h = (ldI L 3 fun v => P 1086 L (.int v :: st) h) := rfl
theorem e226_1086 : exq sa F N S rt cd226 P Q 1086 L st h = (P 1087 L (.int (Int32.ofInt (5)) :: st) h) := rfl
theorem e226_1087 : exq sa F N S rt cd226 P Q 1087 L st h = (tI st fun b s => tI s fun a s => P 1088 L (.int (a + b) :: s) h) := rfl
theorem e226_1088 : exq sa F N S rt cd226 P Q 1088 L st h = (ex1 sa F N S rt P Q 1088 L st h (.iaload) 0 0 0 0) := rfl
theorem e226_1089 : exq sa F N S rt cd226 P Q 1089 L st h = (ldR L 0 fun v => P 1090 L (v :: st) h) := rfl
theorem e226_1090 : exq sa F N S rt cd226 P Q 1090 L st h = (ldI L 3 fun v => P 1091 L (.int v :: st) h) := rfl
theorem e226_1091 : exq sa F N S rt cd226 P Q 1091 L st h = (P 1093 L (.int (Int32.ofInt (6)) :: st) h) := rfl
theorem e226_1093 : exq sa F N S rt cd226 P Q 1093 L st h = (tI st fun b s => tI s fun a s => P 1094 L (.int (a + b) :: s) h) := rfl
theorem e226_1094 : exq sa F N S rt cd226 P Q 1094 L st h = (ex1 sa F N S rt P Q 1094 L st h (.iaload) 0 0 0 0) := rfl
theorem e226_1095 : exq sa F N S rt cd226 P Q 1095 L st h = (ex1 sa F N S rt P Q 1095 L st h (.invokevirtual 127) 0 118 7 6) := rfl
theorem e226_1098 : exq sa F N S rt cd226 P Q 1098 L st h = (ldR L 2 fun v => P 1099 L (v :: st) h) := rfl
theorem e226_1099 : exq sa F N S rt cd226 P Q 1099 L st h = (ldR L 0 fun v => P 1100 L (v :: st) h) := rfl
theorem e226_1100 : exq sa F N S rt cd226 P Q 1100 L st h = (ldI L 3 fun v => P 1101 L (.int v :: st) h) := rfl
theorem e226_1101 : exq sa F N S rt cd226 P Q 1101 L st h = (P 1102 L (.int (Int32.ofInt (1)) :: st) h) := rfl
theorem e226_1102 : exq sa F N S rt cd226 P Q 1102 L st h = (tI st fun b s => tI s fun a s => P 1103 L (.int (a + b) :: s) h) := rfl
theorem e226_1103 : exq sa F N S rt cd226 P Q 1103 L st h = (ex1 sa F N S rt P Q 1103 L st h (.iaload) 0 0 0 0) := rfl
theorem e226_1104 : exq sa F N S rt cd226 P Q 1104 L st h = (ldR L 0 fun v => P 1105 L (v :: st) h) := rfl
theorem e226_1105 : exq sa F N S rt cd226 P Q 1105 L st h = (ldI L 3 fun v => P 1106 L (.int v :: st) h) := rfl
theorem e226_1106 : exq sa F N S rt cd226 P Q 1106 L st h = (P 1107 L (.int (Int32.ofInt (2)) :: st) h) := rfl
theorem e226_1107 : exq sa F N S rt cd226 P Q 1107 L st h = (tI st fun b s => tI s fun a s => P 1108 L (.int (a + b) :: s) h) := rfl
theorem e226_1108 : exq sa F N S rt cd226 P Q 1108 L st h = (ex1 sa F N S rt P Q 1108 L st h (.iaload) 0 0 0 0) := rfl
theorem e226_1109 : exq sa F N S rt cd226 P Q 1109 L st h = (ldR L 0 fun v => P 1110 L (v :: st) h) := rfl
theorem e226_1110 : exq sa F N S rt cd226 P Q 1110 L st h = (ldI L 3 fun v => P 1111 L (.int v :: st) h) := rfl
theorem e226_1111 : exq sa F N S rt cd226 P Q 1111 L st h = (P 1112 L (.int (Int32.ofInt (3)) :: st) h) := rfl
theorem e226_1112 : exq sa F N S rt cd226 P Q 1112 L st h = (tI st fun b s => tI s fun a s => P 1113 L (.int (a + b) :: s) h) := rfl
theorem e226_1113 : exq sa F N S rt cd226 P Q 1113 L st h = (ex1 sa F N S rt P Q 1113 L st h (.iaload) 0 0 0 0) := rfl
theorem e226_1114 : exq sa F N S rt cd226 P Q 1114 L st h = (ldR L 0 fun v => P 1115 L (v :: st) h) := rfl
theorem e226_1115 : exq sa F N S rt cd226 P Q 1115 L st h = (ldI L 3 fun v => P 1116 L (.int v :: st) h) := rfl
theorem e226_1116 : exq sa F N S rt cd226 P Q 1116 L st h = (P 1117 L (.int (Int32.ofInt (4)) :: st) h) := rfl
theorem e226_1117 : exq sa F N S rt cd226 P Q 1117 L st h = (tI st fun b s => tI s fun a s => P 1118 L (.int (a + b) :: s) h) := rfl
theorem e226_1118 : exq sa F N S rt cd226 P Q 1118 L st h = (ex1 sa F N S rt P Q 1118 L st h (.iaload) 0 0 0 0) := rfl
theorem e226_1119 : exq sa F N S rt cd226 P Q 1119 L st h = (ldR L 0 fun v => P 1120 L (v :: st) h) := rfl
theorem e226_1120 : exq sa F N S rt cd226 P Q 1120 L st h = (ldI L 3 fun v => P 1121 L (.int v :: st) h) := rfl
theorem e226_1121 : exq sa F N S rt cd226 P Q 1121 L st h = (P 1122 L (.int (Int32.ofInt (5)) :: st) h) := rfl
theorem e226_1122 : exq sa F N S rt cd226 P Q 1122 L st h = (tI st fun b s => tI s fun a s => P 1123 L (.int (a + b) :: s) h) := rfl
theorem e226_1123 : exq sa F N S rt cd226 P Q 1123 L st h = (ex1 sa F N S rt P Q 1123 L st h (.iaload) 0 0 0 0) := rfl
theorem e226_1124 : exq sa F N S rt cd226 P Q 1124 L st h = (ldR L 0 fun v => P 1125 L (v :: st) h) := rfl
theorem e226_1125 : exq sa F N S rt cd226 P Q 1125 L st h = (ldI L 3 fun v => P 1126 L (.int v :: st) h) := rfl
theorem e226_1126 : exq sa F N S rt cd226 P Q 1126 L st h = (P 1128 L (.int (Int32.ofInt (6)) :: st) h) := rfl
theorem e226_1128 : exq sa F N S rt cd226 P Q 1128 L st h = (tI st fun b s => tI s fun a s => P 1129 L (.int (a + b) :: s) h) := rfl
theorem e226_1129 : exq sa F N S rt cd226 P Q 1129 L st h = (ex1 sa F N S rt P Q 1129 L st h (.iaload) 0 0 0 0) := rfl
theorem e226_1130 : exq sa F N S rt cd226 P Q 1130 L st h = (ex1 sa F N S rt P Q 1130 L st h (.invokevirtual 130) 0 205 7 7) := rfl
theorem e226_1133 : exq sa F N S rt cd226 P Q 1133 L st h = (tI st fun b s => tI s fun a s => br (a = b) (P 1429 L s h) (P 1136 L s h)) := rfl
theorem e226_1136 : exq sa F N S rt cd226 P Q 1136 L st h = (P 1137 L (.int (Int32.ofInt (0)) :: st) h) := rfl
theorem e226_1137 : exq sa F N S rt cd226 P Q 1137 L st h = (tI st fun v s => s = [] ∧ (rt = some .int ∨ (rt = some .boolean ∧ (v = 0 ∨ v = 1))) ∧ Q (some (.int v)) h) := rfl
theorem e226_1138 : exq sa F N S rt cd226 P Q 1138 L st h = (ldR L 1 fun v => P 1139 L (v :: st) h) := rfl
theorem e226_1139 : exq sa F N S rt cd226 P Q 1139 L st h = (ldR L 0 fun v => P 1140 L (v :: st) h) := rfl
theorem e226_1140 : exq sa F N S rt cd226 P Q 1140 L st h = (ldI L 3 fun v => P 1141 L (.int v :: st) h) := rfl
theorem e226_1141 : exq sa F N S rt cd226 P Q 1141 L st h = (P 1142 L (.int (Int32.ofInt (1)) :: st) h) := rfl
theorem e226_1142 : exq sa F N S rt cd226 P Q 1142 L st h = (tI st fun b s => tI s fun a s => P 1143 L (.int (a + b) :: s) h) := rfl
theorem e226_1143 : exq sa F N S rt cd226 P Q 1143 L st h = (ex1 sa F N S rt P Q 1143 L st h (.iaload) 0 0 0 0) := rfl
theorem e226_1144 : exq sa F N S rt cd226 P Q 1144 L st h = (ldR L 0 fun v => P 1145 L (v :: st) h) := rfl
theorem e226_1145 : exq sa F N S rt cd226 P Q 1145 L st h = (ldI L 3 fun v => P 1146 L (.int v :: st) h) := rfl
theorem e226_1146 : exq sa F N S rt cd226 P Q 1146 L st h = (P 1147 L (.int (Int32.ofInt (2)) :: st) h) := rfl
theorem e226_1147 : exq sa F N S rt cd226 P Q 1147 L st h = (tI st fun b s => tI s fun a s => P 1148 L (.int (a + b) :: s) h) := rfl
theorem e226_1148 : exq sa F N S rt cd226 P Q 1148 L st h = (ex1 sa F N S rt P Q 1148 L st h (.iaload) 0 0 0 0) := rfl
theorem e226_1149 : exq sa F N S rt cd226 P Q 1149 L st h = (ldR L 0 fun v => P 1150 L (v :: st) h) := rfl
theorem e226_1150 : exq sa F N S rt cd226 P Q 1150 L st h = (ldI L 3 fun v => P 1151 L (.int v :: st) h) := rfl
theorem e226_1151 : exq sa F N S rt cd226 P Q 1151 L st h = (P 1152 L (.int (Int32.ofInt (3)) :: st) h) := rfl
theorem e226_1152 : exq sa F N S rt cd226 P Q 1152 L st h = (tI st fun b s => tI s fun a s => P 1153 L (.int (a + b) :: s) h) := rfl
theorem e226_1153 : exq sa F N S rt cd226 P Q 1153 L st h = (ex1 sa F N S rt P Q 1153 L st h (.iaload) 0 0 0 0) := rfl
theorem e226_1154 : exq sa F N S rt cd226 P Q 1154 L st h = (ldR L 0 fun v => P 1155 L (v :: st) h) := rfl
theorem e226_1155 : exq sa F N S rt cd226 P Q 1155 L st h = (ldI L 3 fun v => P 1156 L (.int v :: st) h) := rfl
theorem e226_1156 : exq sa F N S rt cd226 P Q 1156 L st h = (P 1157 L (.int (Int32.ofInt (4)) :: st) h) := rfl
theorem e226_1157 : exq sa F N S rt cd226 P Q 1157 L st h = (tI st fun b s => tI s fun a s => P 1158 L (.int (a + b) :: s) h) := rfl
theorem e226_1158 : exq sa F N S rt cd226 P Q 1158 L st h = (ex1 sa F N S rt P Q 1158 L st h (.iaload) 0 0 0 0) := rfl
theorem e226_1159 : exq sa F N S rt cd226 P Q 1159 L st h = (ex1 sa F N S rt P Q 1159 L st h (.invokevirtual 131) 0 119 5 6) := rfl
theorem e226_1162 : exq sa F N S rt cd226 P Q 1162 L st h = (ldR L 2 fun v => P 1163 L (v :: st) h) := rfl
theorem e226_1163 : exq sa F N S rt cd226 P Q 1163 L st h = (ldR L 0 fun v => P 1164 L (v :: st) h) := rfl
theorem e226_1164 : exq sa F N S rt cd226 P Q 1164 L st h = (ldI L 3 fun v => P 1165 L (.int v :: st) h) := rfl
theorem e226_1165 : exq sa F N S rt cd226 P Q 1165 L st h = (P 1166 L (.int (Int32.ofInt (1)) :: st) h) := rfl
theorem e226_1166 : exq sa F N S rt cd226 P Q 1166 L st h = (tI st fun b s => tI s fun a s => P 1167 L (.int (a + b) :: s) h) := rfl
theorem e226_1167 : exq sa F N S rt cd226 P Q 1167 L st h = (ex1 sa F N S rt P Q 1167 L st h (.iaload) 0 0 0 0) := rfl
theorem e226_1168 : exq sa F N S rt cd226 P Q 1168 L st h = (ldR L 0 fun v => P 1169 L (v :: st) h) := rfl
theorem e226_1169 : exq sa F N S rt cd226 P Q 1169 L st h = (ldI L 3 fun v => P 1170 L (.int v :: st) h) := rfl
theorem e226_1170 : exq sa F N S rt cd226 P Q 1170 L st h = (P 1171 L (.int (Int32.ofInt (2)) :: st) h) := rfl
theorem e226_1171 : exq sa F N S rt cd226 P Q 1171 L st h = (tI st fun b s => tI s fun a s => P 1172 L (.int (a + b) :: s) h) := rfl
theorem e226_1172 : exq sa F N S rt cd226 P Q 1172 L st h = (ex1 sa F N S rt P Q 1172 L st h (.iaload) 0 0 0 0) := rfl
theorem e226_1173 : exq sa F N S rt cd226 P Q 1173 L st h = (ldR L 0 fun v => P 1174 L (v :: st) h) := rfl
theorem e226_1174 : exq sa F N S rt cd226 P Q 1174 L st h = (ldI L 3 fun v => P 1175 L (.int v :: st) h) := rfl
theorem e226_1175 : exq sa F N S rt cd226 P Q 1175 L st h = (P 1176 L (.int (Int32.ofInt (3)) :: st) h) := rfl
theorem e226_1176 : exq sa F N S rt cd226 P Q 1176 L st h = (tI st fun b s => tI s fun a s => P 1177 L (.int (a + b) :: s) h) := rfl
theorem e226_1177 : exq sa F N S rt cd226 P Q 1177 L st h = (ex1 sa F N S rt P Q 1177 L st h (.iaload) 0 0 0 0) := rfl
theorem e226_1178 : exq sa F N S rt cd226 P Q 1178 L st h = (ldR L 0 fun v => P 1179 L (v :: st) h) := rfl
theorem e226_1179 : exq sa F N S rt cd226 P Q 1179 L st h = (ldI L 3 fun v => P 1180 L (.int v :: st) h) := rfl
theorem e226_1180 : exq sa F N S rt cd226 P Q 1180 L st h = (P 1181 L (.int (Int32.ofInt (4)) :: st) h) := rfl
theorem e226_1181 : exq sa F N S rt cd226 P Q 1181 L st h = (tI st fun b s => tI s fun a s => P 1182 L (.int (a + b) :: s) h) := rfl
theorem e226_1182 : exq sa F N S rt cd226 P Q 1182 L st h = (ex1 sa F N S rt P Q 1182 L st h (.iaload) 0 0 0 0) := rfl
theorem e226_1183 : exq sa F N S rt cd226 P Q 1183 L st h = (ex1 sa F N S rt P Q 1183 L st h (.invokevirtual 135) 0 207 5 7) := rfl
theorem e226_1186 : exq sa F N S rt cd226 P Q 1186 L st h = (tJ st fun b s => tJ s fun a s => P 1187 L (.int (lg_cmp a b) :: s) h) := rfl
theorem e226_1187 : exq sa F N S rt cd226 P Q 1187 L st h = (tI st fun a s => br (a = 0) (P 1429 L s h) (P 1190 L s h)) := rfl
theorem e226_1190 : exq sa F N S rt cd226 P Q 1190 L st h = (P 1191 L (.int (Int32.ofInt (0)) :: st) h) := rfl
theorem e226_1191 : exq sa F N S rt cd226 P Q 1191 L st h = (tI st fun v s => s = [] ∧ (rt = some .int ∨ (rt = some .boolean ∧ (v = 0 ∨ v = 1))) ∧ Q (some (.int v)) h) := rfl
theorem e226_1192 : exq sa F N S rt cd226 P Q 1192 L st h = (ldR L 1 fun v => P 1193 L (v :: st) h) := rfl
theorem e226_1193 : exq sa F N S rt cd226 P Q 1193 L st h = (ldR L 0 fun v => P 1194 L (v :: st) h) := rfl
theorem e226_1194 : exq sa F N S rt cd226 P Q 1194 L st h = (ldI L 3 fun v => P 1195 L (.int v :: st) h) := rfl
theorem e226_1195 : exq sa F N S rt cd226 P Q 1195 L st h = (P 1196 L (.int (Int32.ofInt (1)) :: st) h) := rfl
theorem e226_1196 : exq sa F N S rt cd226 P Q 1196 L st h = (tI st fun b s => tI s fun a s => P 1197 L (.int (a + b) :: s) h) := rfl
theorem e226_1197 : exq sa F N S rt cd226 P Q 1197 L st h = (ex1 sa F N S rt P Q 1197 L st h (.iaload) 0 0 0 0) := rfl
theorem e226_1198 : exq sa F N S rt cd226 P Q 1198 L st h = (ldR L 0 fun v => P 1199 L (v :: st) h) := rfl
theorem e226_1199 : exq sa F N S rt cd226 P Q 1199 L st h = (ldI L 3 fun v => P 1200 L (.int v :: st) h) := rfl
theorem e226_1200 : exq sa F N S rt cd226 P Q 1200 L st h = (P 1201 L (.int (Int32.ofInt (2)) :: st) h) := rfl
theorem e226_1201 : exq sa F N S rt cd226 P Q 1201 L st h = (tI st fun b s => tI s fun a s => P 1202 L (.int (a + b) :: s) h) := rfl
theorem e226_1202 : exq sa F N S rt cd226 P Q 1202 L st h = (ex1 sa F N S rt P Q 1202 L st h (.iaload) 0 0 0 0) := rfl
theorem e226_1203 : exq sa F N S rt cd226 P Q 1203 L st h = (ldR L 0 fun v => P 1204 L (v :: st) h) := rfl
theorem e226_1204 : exq sa F N S rt cd226 P Q 1204 L st h = (ldI L 3 fun v => P 1205 L (.int v :: st) h) := rfl
theorem e226_1205 : exq sa F N S rt cd226 P Q 1205 L st h = (P 1206 L (.int (Int32.ofInt (3)) :: st) h) := rfl
theorem e226_1206 : exq sa F N S rt cd226 P Q 1206 L st h = (tI st fun b s => tI s fun a s => P 1207 L (.int (a + b) :: s) h) := rfl
theorem e226_1207 : exq sa F N S rt cd226 P Q 1207 L st h = (ex1 sa F N S rt P Q 1207 L st h (.iaload) 0 0 0 0) := rfl
theorem e226_1208 : exq sa F N S rt cd226 P Q 1208 L st h = (ex1 sa F N S rt P Q 1208 L st h (.invokevirtual 136) 0 120 4 6) := rfl
theorem e226_1211 : exq sa F N S rt cd226 P Q 1211 L st h = (ldR L 2 fun v => P 1212 L (v :: st) h) := rfl
theorem e226_1212 : exq sa F N S rt cd226 P Q 1212 L st h = (ldR L 0 fun v => P 1213 L (v :: st) h) := rfl
theorem e226_1213 : exq sa F N S rt cd226 P Q 1213 L st h = (ldI L 3 fun v => P 1214 L (.int v :: st) h) := rfl
theorem e226_1214 : exq sa F N S rt cd226 P Q 1214 L st h = (P 1215 L (.int (Int32.ofInt (1)) :: st) h) := rfl
theorem e226_1215 : exq sa F N S rt cd226 P Q 1215 L st h = (tI st fun b s => tI s fun a s => P 1216 L (.int (a + b) :: s) h) := rfl
theorem e226_1216 : exq sa F N S rt cd226 P Q 1216 L st h = (ex1 sa F N S rt P Q 1216 L st h (.iaload) 0 0 0 0) := rfl
theorem e226_1217 : exq sa F N S rt cd226 P Q 1217 L st h = (ldR L 0 fun v => P 1218 L (v :: st) h) := rfl
theorem e226_1218 : exq sa F N S rt cd226 P Q 1218 L st h = (ldI L 3 fun v => P 1219 L (.int v :: st) h) := rfl
theorem e226_1219 : exq sa F N S rt cd226 P Q 1219 L st h = (P 1220 L (.int (Int32.ofInt (2)) :: st) h) := rfl
theorem e226_1220 : exq sa F N S rt cd226 P Q 1220 L st h = (tI st fun b s => tI s fun a s => P 1221 L (.int (a + b) :: s) h) := rfl
theorem e226_1221 : exq sa F N S rt cd226 P Q 1221 L st h = (ex1 sa F N S rt P Q 1221 L st h (.iaload) 0 0 0 0) := rfl
theorem e226_1222 : exq sa F N S rt cd226 P Q 1222 L st h = (ldR L 0 fun v => P 1223 L (v :: st) h) := rfl
theorem e226_1223 : exq sa F N S rt cd226 P Q 1223 L st h = (ldI L 3 fun v => P 1224 L (.int v :: st) h) := rfl
theorem e226_1224 : exq sa F N S rt cd226 P Q 1224 L st h = (P 1225 L (.int (Int32.ofInt (3)) :: st) h) := rfl
theorem e226_1225 : exq sa F N S rt cd226 P Q 1225 L st h = (tI st fun b s => tI s fun a s => P 1226 L (.int (a + b) :: s) h) := rfl
theorem e226_1226 : exq sa F N S rt cd226 P Q 1226 L st h = (ex1 sa F N S rt P Q 1226 L st h (.iaload) 0 0 0 0) := rfl
theorem e226_1227 : exq sa F N S rt cd226 P Q 1227 L st h = (ex1 sa F N S rt P Q 1227 L st h (.invokevirtual 139) 0 208 4 7) := rfl
theorem e226_1230 : exq sa F N S rt cd226 P Q 1230 L st h = (tI st fun b s => tI s fun a s => br (a = b) (P 1429 L s h) (P 1233 L s h)) := rfl
theorem e226_1233 : exq sa F N S rt cd226 P Q 1233 L st h = (P 1234 L (.int (Int32.ofInt (0)) :: st) h) := rfl
theorem e226_1234 : exq sa F N S rt cd226 P Q 1234 L st h = (tI st fun v s => s = [] ∧ (rt = some .int ∨ (rt = some .boolean ∧ (v = 0 ∨ v = 1))) ∧ Q (some (.int v)) h) := rfl
theorem e226_1235 : exq sa F N S rt cd226 P Q 1235 L st h = (ldR L 1 fun v => P 1236 L (v :: st) h) := rfl
theorem e226_1236 : exq sa F N S rt cd226 P Q 1236 L st h = (ldR L 0 fun v => P 1237 L (v :: st) h) := rfl
theorem e226_1237 : exq sa F N S rt cd226 P Q 1237 L st h = (ldI L 3 fun v => P 1238 L (.int v :: st) h) := rfl
theorem e226_1238 : exq sa F N S rt cd226 P Q 1238 L st h = (P 1239 L (.int (Int32.ofInt (1)) :: st) h) := rfl
theorem e226_1239 : exq sa F N S rt cd226 P Q 1239 L st h = (tI st fun b s => tI s fun a s => P 1240 L (.int (a + b) :: s) h) := rfl
theorem e226_1240 : exq sa F N S rt cd226 P Q 1240 L st h = (ex1 sa F N S rt P Q 1240 L st h (.iaload) 0 0 0 0) := rfl
theorem e226_1241 : exq sa F N S rt cd226 P Q 1241 L st h = (ex1 sa F N S rt P Q 1241 L st h (.invokevirtual 140) 0 121 2 6) := rfl
theorem e226_1244 : exq sa F N S rt cd226 P Q 1244 L st h = (ldR L 2 fun v => P 1245 L (v :: st) h) := rfl
theorem e226_1245 : exq sa F N S rt cd226 P Q 1245 L st h = (ldR L 0 fun v => P 1246 L (v :: st) h) := rfl
theorem e226_1246 : exq sa F N S rt cd226 P Q 1246 L st h = (ldI L 3 fun v => P 1247 L (.int v :: st) h) := rfl
theorem e226_1247 : exq sa F N S rt cd226 P Q 1247 L st h = (P 1248 L (.int (Int32.ofInt (1)) :: st) h) := rfl
theorem e226_1248 : exq sa F N S rt cd226 P Q 1248 L st h = (tI st fun b s => tI s fun a s => P 1249 L (.int (a + b) :: s) h) := rfl
theorem e226_1249 : exq sa F N S rt cd226 P Q 1249 L st h = (ex1 sa F N S rt P Q 1249 L st h (.iaload) 0 0 0 0) := rfl
theorem e226_1250 : exq sa F N S rt cd226 P Q 1250 L st h = (ex1 sa F N S rt P Q 1250 L st h (.invokevirtual 143) 0 209 2 7) := rfl
theorem e226_1253 : exq sa F N S rt cd226 P Q 1253 L st h = (tI st fun b s => tI s fun a s => br (a = b) (P 1429 L s h) (P 1256 L s h)) := rfl
theorem e226_1256 : exq sa F N S rt cd226 P Q 1256 L st h = (P 1257 L (.int (Int32.ofInt (0)) :: st) h) := rfl
theorem e226_1257 : exq sa F N S rt cd226 P Q 1257 L st h = (tI st fun v s => s = [] ∧ (rt = some .int ∨ (rt = some .boolean ∧ (v = 0 ∨ v = 1))) ∧ Q (some (.int v)) h) := rfl
theorem e226_1258 : exq sa F N S rt cd226 P Q 1258 L st h = (ldR L 1 fun v => P 1259 L (v :: st) h) := rfl
theorem e226_1259 : exq sa F N S rt cd226 P Q 1259 L st h = (ldR L 0 fun v => P 1260 L (v :: st) h) := rfl
theorem e226_1260 : exq sa F N S rt cd226 P Q 1260 L st h = (ldI L 3 fun v => P 1261 L (.int v :: st) h) := rfl
theorem e226_1261 : exq sa F N S rt cd226 P Q 1261 L st h = (P 1262 L (.int (Int32.ofInt (1)) :: st) h) := rfl
theorem e226_1262 : exq sa F N S rt cd226 P Q 1262 L st h = (tI st fun b s => tI s fun a s => P 1263 L (.int (a + b) :: s) h) := rfl
theorem e226_1263 : exq sa F N S rt cd226 P Q 1263 L st h = (ex1 sa F N S rt P Q 1263 L st h (.iaload) 0 0 0 0) := rfl
theorem e226_1264 : exq sa F N S rt cd226 P Q 1264 L st h = (ex1 sa F N S rt P Q 1264 L st h (.invokevirtual 144) 0 122 2 6) := rfl
theorem e226_1267 : exq sa F N S rt cd226 P Q 1267 L st h = (ldR L 2 fun v => P 1268 L (v :: st) h) := rfl
theorem e226_1268 : exq sa F N S rt cd226 P Q 1268 L st h = (ldR L 0 fun v => P 1269 L (v :: st) h) := rfl
theorem e226_1269 : exq sa F N S rt cd226 P Q 1269 L st h = (ldI L 3 fun v => P 1270 L (.int v :: st) h) := rfl
theorem e226_1270 : exq sa F N S rt cd226 P Q 1270 L st h = (P 1271 L (.int (Int32.ofInt (1)) :: st) h) := rfl
theorem e226_1271 : exq sa F N S rt cd226 P Q 1271 L st h = (tI st fun b s => tI s fun a s => P 1272 L (.int (a + b) :: s) h) := rfl
theorem e226_1272 : exq sa F N S rt cd226 P Q 1272 L st h = (ex1 sa F N S rt P Q 1272 L st h (.iaload) 0 0 0 0) := rfl
theorem e226_1273 : exq sa F N S rt cd226 P Q 1273 L st h = (ex1 sa F N S rt P Q 1273 L st h (.invokevirtual 147) 0 210 2 7) := rfl
theorem e226_1276 : exq sa F N S rt cd226 P Q 1276 L st h = (tI st fun b s => tI s fun a s => br (a = b) (P 1429 L s h) (P 1279 L s h)) := rfl
theorem e226_1279 : exq sa F N S rt cd226 P Q 1279 L st h = (P 1280 L (.int (Int32.ofInt (0)) :: st) h) := rfl
theorem e226_1280 : exq sa F N S rt cd226 P Q 1280 L st h = (tI st fun v s => s = [] ∧ (rt = some .int ∨ (rt = some .boolean ∧ (v = 0 ∨ v = 1))) ∧ Q (some (.int v)) h) := rfl
theorem e226_1281 : exq sa F N S rt cd226 P Q 1281 L st h = (ldR L 1 fun v => P 1282 L (v :: st) h) := rfl
theorem e226_1282 : exq sa F N S rt cd226 P Q 1282 L st h = (ldR L 0 fun v => P 1283 L (v :: st) h) := rfl
theorem e226_1283 : exq sa F N S rt cd226 P Q 1283 L st h = (ldI L 3 fun v => P 1284 L (.int v :: st) h) := rfl
theorem e226_1284 : exq sa F N S rt cd226 P Q 1284 L st h = (P 1285 L (.int (Int32.ofInt (1)) :: st) h) := rfl
theorem e226_1285 : exq sa F N S rt cd226 P Q 1285 L st h = (tI st fun b s => tI s fun a s => P 1286 L (.int (a + b) :: s) h) := rfl
theorem e226_1286 : exq sa F N S rt cd226 P Q 1286 L st h = (ex1 sa F N S rt P Q 1286 L st h (.iaload) 0 0 0 0) := rfl
theorem e226_1287 : exq sa F N S rt cd226 P Q 1287 L st h = (ex1 sa F N S rt P Q 1287 L st h (.invokevirtual 148) 0 123 2 6) := rfl
theorem e226_1290 : exq sa F N S rt cd226 P Q 1290 L st h = (ldR L 2 fun v => P 1291 L (v :: st) h) := rfl
theorem e226_1291 : exq sa F N S rt cd226 P Q 1291 L st h = (ldR L 0 fun v => P 1292 L (v :: st) h) := rfl
theorem e226_1292 : exq sa F N S rt cd226 P Q 1292 L st h = (ldI L 3 fun v => P 1293 L (.int v :: st) h) := rfl
theorem e226_1293 : exq sa F N S rt cd226 P Q 1293 L st h = (P 1294 L (.int (Int32.ofInt (1)) :: st) h) := rfl
theorem e226_1294 : exq sa F N S rt cd226 P Q 1294 L st h = (tI st fun b s => tI s fun a s => P 1295 L (.int (a + b) :: s) h) := rfl
theorem e226_1295 : exq sa F N S rt cd226 P Q 1295 L st h = (ex1 sa F N S rt P Q 1295 L st h (.iaload) 0 0 0 0) := rfl
theorem e226_1296 : exq sa F N S rt cd226 P Q 1296 L st h = (ex1 sa F N S rt P Q 1296 L st h (.invokevirtual 151) 0 211 2 7) := rfl
theorem e226_1299 : exq sa F N S rt cd226 P Q 1299 L st h = (tI st fun b s => tI s fun a s => br (a = b) (P 1429 L s h) (P 1302 L s h)) := rfl
theorem e226_1302 : exq sa F N S rt cd226 P Q 1302 L st h = (P 1303 L (.int (Int32.ofInt (0)) :: st) h) := rfl
theorem e226_1303 : exq sa F N S rt cd226 P Q 1303 L st h = (tI st fun v s => s = [] ∧ (rt = some .int ∨ (rt = some .boolean ∧ (v = 0 ∨ v = 1))) ∧ Q (some (.int v)) h) := rfl
theorem e226_1304 : exq sa F N S rt cd226 P Q 1304 L st h = (ldR L 1 fun v => P 1305 L (v :: st) h) := rfl
theorem e226_1305 : exq sa F N S rt cd226 P Q 1305 L st h = (ldR L 0 fun v => P 1306 L (v :: st) h) := rfl
theorem e226_1306 : exq sa F N S rt cd226 P Q 1306 L st h = (ldI L 3 fun v => P 1307 L (.int v :: st) h) := rfl
theorem e226_1307 : exq sa F N S rt cd226 P Q 1307 L st h = (P 1308 L (.int (Int32.ofInt (1)) :: st) h) := rfl
theorem e226_1308 : exq sa F N S rt cd226 P Q 1308 L st h = (tI st fun b s => tI s fun a s => P 1309 L (.int (a + b) :: s) h) := rfl
theorem e226_1309 : exq sa F N S rt cd226 P Q 1309 L st h = (ex1 sa F N S rt P Q 1309 L st h (.iaload) 0 0 0 0) := rfl
theorem e226_1310 : exq sa F N S rt cd226 P Q 1310 L st h = (ldR L 0 fun v => P 1311 L (v :: st) h) := rfl
theorem e226_1311 : exq sa F N S rt cd226 P Q 1311 L st h = (ldI L 3 fun v => P 1312 L (.int v :: st) h) := rfl
theorem e226_1312 : exq sa F N S rt cd226 P Q 1312 L st h = (P 1313 L (.int (Int32.ofInt (2)) :: st) h) := rfl
theorem e226_1313 : exq sa F N S rt cd226 P Q 1313 L st h = (tI st fun b s => tI s fun a s => P 1314 L (.int (a + b) :: s) h) := rfl
theorem e226_1314 : exq sa F N S rt cd226 P Q 1314 L st h = (ex1 sa F N S rt P Q 1314 L st h (.iaload) 0 0 0 0) := rfl
theorem e226_1315 : exq sa F N S rt cd226 P Q 1315 L st h = (ex1 sa F N S rt P Q 1315 L st h (.invokevirtual 152) 0 124 3 6) := rfl
theorem e226_1318 : exq sa F N S rt cd226 P Q 1318 L st h = (ldR L 2 fun v => P 1319 L (v :: st) h) := rfl
theorem e226_1319 : exq sa F N S rt cd226 P Q 1319 L st h = (ldR L 0 fun v => P 1320 L (v :: st) h) := rfl
theorem e226_1320 : exq sa F N S rt cd226 P Q 1320 L st h = (ldI L 3 fun v => P 1321 L (.int v :: st) h) := rfl
theorem e226_1321 : exq sa F N S rt cd226 P Q 1321 L st h = (P 1322 L (.int (Int32.ofInt (1)) :: st) h) := rfl
theorem e226_1322 : exq sa F N S rt cd226 P Q 1322 L st h = (tI st fun b s => tI s fun a s => P 1323 L (.int (a + b) :: s) h) := rfl
theorem e226_1323 : exq sa F N S rt cd226 P Q 1323 L st h = (ex1 sa F N S rt P Q 1323 L st h (.iaload) 0 0 0 0) := rfl
theorem e226_1324 : exq sa F N S rt cd226 P Q 1324 L st h = (ldR L 0 fun v => P 1325 L (v :: st) h) := rfl
theorem e226_1325 : exq sa F N S rt cd226 P Q 1325 L st h = (ldI L 3 fun v => P 1326 L (.int v :: st) h) := rfl
theorem e226_1326 : exq sa F N S rt cd226 P Q 1326 L st h = (P 1327 L (.int (Int32.ofInt (2)) :: st) h) := rfl
theorem e226_1327 : exq sa F N S rt cd226 P Q 1327 L st h = (tI st fun b s => tI s fun a s => P 1328 L (.int (a + b) :: s) h) := rfl
theorem e226_1328 : exq sa F N S rt cd226 P Q 1328 L st h = (ex1 sa F N S rt P Q 1328 L st h (.iaload) 0 0 0 0) := rfl
theorem e226_1329 : exq sa F N S rt cd226 P Q 1329 L st h = (ex1 sa F N S rt P Q 1329 L st h (.invokevirtual 155) 0 212 3 7) := rfl
theorem e226_1332 : exq sa F N S rt cd226 P Q 1332 L st h = (tI st fun b s => tI s fun a s => br (a = b) (P 1429 L s h) (P 1335 L s h)) := rfl
theorem e226_1335 : exq sa F N S rt cd226 P Q 1335 L st h = (P 1336 L (.int (Int32.ofInt (0)) :: st) h) := rfl
theorem e226_1336 : exq sa F N S rt cd226 P Q 1336 L st h = (tI st fun v s => s = [] ∧ (rt = some .int ∨ (rt = some .boolean ∧ (v = 0 ∨ v = 1))) ∧ Q (some (.int v)) h) := rfl
theorem e226_1337 : exq sa F N S rt cd226 P Q 1337 L st h = (ldR L 1 fun v => P 1338 L (v :: st) h) := rfl
theorem e226_1338 : exq sa F N S rt cd226 P Q 1338 L st h = (ldR L 0 fun v => P 1339 L (v :: st) h) := rfl
theorem e226_1339 : exq sa F N S rt cd226 P Q 1339 L st h = (ldI L 3 fun v => P 1340 L (.int v :: st) h) := rfl
theorem e226_1340 : exq sa F N S rt cd226 P Q 1340 L st h = (P 1341 L (.int (Int32.ofInt (1)) :: st) h) := rfl
theorem e226_1341 : exq sa F N S rt cd226 P Q 1341 L st h = (tI st fun b s => tI s fun a s => P 1342 L (.int (a + b) :: s) h) := rfl
theorem e226_1342 : exq sa F N S rt cd226 P Q 1342 L st h = (ex1 sa F N S rt P Q 1342 L st h (.iaload) 0 0 0 0) := rfl
theorem e226_1343 : exq sa F N S rt cd226 P Q 1343 L st h = (ldR L 0 fun v => P 1344 L (v :: st) h) := rfl
theorem e226_1344 : exq sa F N S rt cd226 P Q 1344 L st h = (ldI L 3 fun v => P 1345 L (.int v :: st) h) := rfl
theorem e226_1345 : exq sa F N S rt cd226 P Q 1345 L st h = (P 1346 L (.int (Int32.ofInt (2)) :: st) h) := rfl
theorem e226_1346 : exq sa F N S rt cd226 P Q 1346 L st h = (tI st fun b s => tI s fun a s => P 1347 L (.int (a + b) :: s) h) := rfl
theorem e226_1347 : exq sa F N S rt cd226 P Q 1347 L st h = (ex1 sa F N S rt P Q 1347 L st h (.iaload) 0 0 0 0) := rfl
theorem e226_1348 : exq sa F N S rt cd226 P Q 1348 L st h = (ex1 sa F N S rt P Q 1348 L st h (.invokevirtual 156) 0 125 3 6) := rfl
theorem e226_1351 : exq sa F N S rt cd226 P Q 1351 L st h = (ldR L 2 fun v => P 1352 L (v :: st) h) := rfl
theorem e226_1352 : exq sa F N S rt cd226 P Q 1352 L st h = (ldR L 0 fun v => P 1353 L (v :: st) h) := rfl
theorem e226_1353 : exq sa F N S rt cd226 P Q 1353 L st h = (ldI L 3 fun v => P 1354 L (.int v :: st) h) := rfl
theorem e226_1354 : exq sa F N S rt cd226 P Q 1354 L st h = (P 1355 L (.int (Int32.ofInt (1)) :: st) h) := rfl
theorem e226_1355 : exq sa F N S rt cd226 P Q 1355 L st h = (tI st fun b s => tI s fun a s => P 1356 L (.int (a + b) :: s) h) := rfl
theorem e226_1356 : exq sa F N S rt cd226 P Q 1356 L st h = (ex1 sa F N S rt P Q 1356 L st h (.iaload) 0 0 0 0) := rfl
theorem e226_1357 : exq sa F N S rt cd226 P Q 1357 L st h = (ldR L 0 fun v => P 1358 L (v :: st) h) := rfl
theorem e226_1358 : exq sa F N S rt cd226 P Q 1358 L st h = (ldI L 3 fun v => P 1359 L (.int v :: st) h) := rfl
theorem e226_1359 : exq sa F N S rt cd226 P Q 1359 L st h = (P 1360 L (.int (Int32.ofInt (2)) :: st) h) := rfl
theorem e226_1360 : exq sa F N S rt cd226 P Q 1360 L st h = (tI st fun b s => tI s fun a s => P 1361 L (.int (a + b) :: s) h) := rfl
theorem e226_1361 : exq sa F N S rt cd226 P Q 1361 L st h = (ex1 sa F N S rt P Q 1361 L st h (.iaload) 0 0 0 0) := rfl
theorem e226_1362 : exq sa F N S rt cd226 P Q 1362 L st h = (ex1 sa F N S rt P Q 1362 L st h (.invokevirtual 159) 0 222 3 7) := rfl
theorem e226_1365 : exq sa F N S rt cd226 P Q 1365 L st h = (tI st fun b s => tI s fun a s => br (a = b) (P 1429 L s h) (P 1368 L s h)) := rfl
theorem e226_1368 : exq sa F N S rt cd226 P Q 1368 L st h = (P 1369 L (.int (Int32.ofInt (0)) :: st) h) := rfl
theorem e226_1369 : exq sa F N S rt cd226 P Q 1369 L st h = (tI st fun v s => s = [] ∧ (rt = some .int ∨ (rt = some .boolean ∧ (v = 0 ∨ v = 1))) ∧ Q (some (.int v)) h) := rfl
theorem e226_1370 : exq sa F N S rt cd226 P Q 1370 L st h = (ldR L 1 fun v => P 1371 L (v :: st) h) := rfl
theorem e226_1371 : exq sa F N S rt cd226 P Q 1371 L st h = (ldR L 0 fun v => P 1372 L (v :: st) h) := rfl
theorem e226_1372 : exq sa F N S rt cd226 P Q 1372 L st h = (ldI L 3 fun v => P 1373 L (.int v :: st) h) := rfl
theorem e226_1373 : exq sa F N S rt cd226 P Q 1373 L st h = (P 1374 L (.int (Int32.ofInt (1)) :: st) h) := rfl
theorem e226_1374 : exq sa F N S rt cd226 P Q 1374 L st h = (tI st fun b s => tI s fun a s => P 1375 L (.int (a + b) :: s) h) := rfl
theorem e226_1375 : exq sa F N S rt cd226 P Q 1375 L st h = (ex1 sa F N S rt P Q 1375 L st h (.iaload) 0 0 0 0) := rfl
theorem e226_1376 : exq sa F N S rt cd226 P Q 1376 L st h = (ex1 sa F N S rt P Q 1376 L st h (.invokevirtual 160) 0 126 2 6) := rfl
theorem e226_1379 : exq sa F N S rt cd226 P Q 1379 L st h = (ldR L 2 fun v => P 1380 L (v :: st) h) := rfl
theorem e226_1380 : exq sa F N S rt cd226 P Q 1380 L st h = (ldR L 0 fun v => P 1381 L (v :: st) h) := rfl
theorem e226_1381 : exq sa F N S rt cd226 P Q 1381 L st h = (ldI L 3 fun v => P 1382 L (.int v :: st) h) := rfl
theorem e226_1382 : exq sa F N S rt cd226 P Q 1382 L st h = (P 1383 L (.int (Int32.ofInt (1)) :: st) h) := rfl
theorem e226_1383 : exq sa F N S rt cd226 P Q 1383 L st h = (tI st fun b s => tI s fun a s => P 1384 L (.int (a + b) :: s) h) := rfl
theorem e226_1384 : exq sa F N S rt cd226 P Q 1384 L st h = (ex1 sa F N S rt P Q 1384 L st h (.iaload) 0 0 0 0) := rfl
theorem e226_1385 : exq sa F N S rt cd226 P Q 1385 L st h = (ex1 sa F N S rt P Q 1385 L st h (.invokevirtual 163) 0 223 2 7) := rfl
theorem e226_1388 : exq sa F N S rt cd226 P Q 1388 L st h = (tI st fun b s => tI s fun a s => br (a = b) (P 1429 L s h) (P 1391 L s h)) := rfl
theorem e226_1391 : exq sa F N S rt cd226 P Q 1391 L st h = (P 1392 L (.int (Int32.ofInt (0)) :: st) h) := rfl
theorem e226_1392 : exq sa F N S rt cd226 P Q 1392 L st h = (tI st fun v s => s = [] ∧ (rt = some .int ∨ (rt = some .boolean ∧ (v = 0 ∨ v = 1))) ∧ Q (some (.int v)) h) := rfl
theorem e226_1393 : exq sa F N S rt cd226 P Q 1393 L st h = (ldR L 1 fun v => P 1394 L (v :: st) h) := rfl
theorem e226_1394 : exq sa F N S rt cd226 P Q 1394 L st h = (ldR L 0 fun v => P 1395 L (v :: st) h) := rfl
theorem e226_1395 : exq sa F N S rt cd226 P Q 1395 L st h = (ldI L 3 fun v => P 1396 L (.int v :: st) h) := rfl
theorem e226_1396 : exq sa F N S rt cd226 P Q 1396 L st h = (P 1397 L (.int (Int32.ofInt (1)) :: st) h) := rfl
theorem e226_1397 : exq sa F N S rt cd226 P Q 1397 L st h = (tI st fun b s => tI s fun a s => P 1398 L (.int (a + b) :: s) h) := rfl
theorem e226_1398 : exq sa F N S rt cd226 P Q 1398 L st h = (ex1 sa F N S rt P Q 1398 L st h (.iaload) 0 0 0 0) := rfl
theorem e226_1399 : exq sa F N S rt cd226 P Q 1399 L st h = (ex1 sa F N S rt P Q 1399 L st h (.invokevirtual 164) 0 127 2 6) := rfl
theorem e226_1402 : exq sa F N S rt cd226 P Q 1402 L st h = (ldR L 2 fun v => P 1403 L (v :: st) h) := rfl
theorem e226_1403 : exq sa F N S rt cd226 P Q 1403 L st h = (ldR L 0 fun v => P 1404 L (v :: st) h) := rfl
theorem e226_1404 : exq sa F N S rt cd226 P Q 1404 L st h = (ldI L 3 fun v => P 1405 L (.int v :: st) h) := rfl
theorem e226_1405 : exq sa F N S rt cd226 P Q 1405 L st h = (P 1406 L (.int (Int32.ofInt (1)) :: st) h) := rfl
theorem e226_1406 : exq sa F N S rt cd226 P Q 1406 L st h = (tI st fun b s => tI s fun a s => P 1407 L (.int (a + b) :: s) h) := rfl
theorem e226_1407 : exq sa F N S rt cd226 P Q 1407 L st h = (ex1 sa F N S rt P Q 1407 L st h (.iaload) 0 0 0 0) := rfl
theorem e226_1408 : exq sa F N S rt cd226 P Q 1408 L st h = (ex1 sa F N S rt P Q 1408 L st h (.invokevirtual 167) 0 224 2 7) := rfl
theorem e226_1411 : exq sa F N S rt cd226 P Q 1411 L st h = (tI st fun b s => tI s fun a s => br (a = b) (P 1429 L s h) (P 1414 L s h)) := rfl
theorem e226_1414 : exq sa F N S rt cd226 P Q 1414 L st h = (P 1415 L (.int (Int32.ofInt (0)) :: st) h) := rfl
theorem e226_1415 : exq sa F N S rt cd226 P Q 1415 L st h = (tI st fun v s => s = [] ∧ (rt = some .int ∨ (rt = some .boolean ∧ (v = 0 ∨ v = 1))) ∧ Q (some (.int v)) h) := rfl
theorem e226_1416 : exq sa F N S rt cd226 P Q 1416 L st h = (ldR L 1 fun v => P 1417 L (v :: st) h) := rfl
theorem e226_1417 : exq sa F N S rt cd226 P Q 1417 L st h = (ex1 sa F N S rt P Q 1417 L st h (.invokevirtual 168) 0 128 1 6) := rfl
theorem e226_1420 : exq sa F N S rt cd226 P Q 1420 L st h = (ldR L 2 fun v => P 1421 L (v :: st) h) := rfl
theorem e226_1421 : exq sa F N S rt cd226 P Q 1421 L st h = (ex1 sa F N S rt P Q 1421 L st h (.invokevirtual 171) 0 140 1 7) := rfl
theorem e226_1424 : exq sa F N S rt cd226 P Q 1424 L st h = (tI st fun b s => tI s fun a s => br (a = b) (P 1429 L s h) (P 1427 L s h)) := rfl
theorem e226_1427 : exq sa F N S rt cd226 P Q 1427 L st h = (P 1428 L (.int (Int32.ofInt (0)) :: st) h) := rfl
theorem e226_1428 : exq sa F N S rt cd226 P Q 1428 L st h = (tI st fun v s => s = [] ∧ (rt = some .int ∨ (rt = some .boolean ∧ (v = 0 ∨ v = 1))) ∧ Q (some (.int v)) h) := rfl
theorem e226_1429 : exq sa F N S rt cd226 P Q 1429 L st h = (ldI L 3 fun v => lvS L 3 (.int (v + Int32.ofInt (7))) fun L' => P 1432 L' st h) := rfl
theorem e226_1432 : exq sa F N S rt cd226 P Q 1432 L st h = (P 18 L st h) := rfl
theorem e226_1435 : exq sa F N S rt cd226 P Q 1435 L st h = (P 1436 L (.int (Int32.ofInt (1)) :: st) h) := rfl
theorem e226_1436 : exq sa F N S rt cd226 P Q 1436 L st h = (tI st fun v s => s = [] ∧ (rt = some .int ∨ (rt = some .boolean ∧ (v = 0 ∨ v = 1))) ∧ Q (some (.int v)) h) := rfl
end EL
