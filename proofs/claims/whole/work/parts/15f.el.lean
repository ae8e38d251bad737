/-! what each instruction does -/
section EL
variable {sa : aS} {F : aF} {N S : Nat} {rt : Option FieldType} {P : aK} {Q : aQ} {L : aL} {st : List Value} {h : aH}
theorem e224_0 : exq sa F N S rt cd224 P Q 0 L st h = (ldI L 1 fun v => P 1 L (.int v :: st) h) := rfl
theorem e224_1 : exq sa F N S rt cd224 P Q 1 L st h = (ex1 sa F N S rt P Q 1 L st h (.tableswitch 136 0 7 #[47, 82, 89, 96, 103, 113, 126, 131]) 0 0 0 0) := rfl
theorem e224_48 : exq sa F N S rt cd224 P Q 48 L st h = (P 49 L (.int (Int32.ofInt (0)) :: st) h) := rfl
theorem e224_49 : exq sa F N S rt cd224 P Q 49 L st h = (tI st fun v s => lvS L 2 (.int v) fun L' => P 50 L' s h) := rfl
theorem e224_50 : exq sa F N S rt cd224 P Q 50 L st h = (P 51 L (.int (Int32.ofInt (0)) :: st) h) := rfl
theorem e224_51 : exq sa F N S rt cd224 P Q 51 L st h = (tI st fun v s => lvS L 3 (.int v) fun L' => P 52 L' s h) := rfl
theorem e224_52 : exq sa F N S rt cd224 P Q 52 L st h = (ldI L 3 fun v => P 53 L (.int v :: st) h) := rfl
theorem e224_53 : exq sa F N S rt cd224 P Q 53 L st h = (P 55 L (.int (Int32.ofInt (8)) :: st) h) := rfl
theorem e224_55 : exq sa F N S rt cd224 P Q 55 L st h = (tI st fun b s => tI s fun a s => br (b ≤ a) (P 81 L s h) (P 58 L s h)) := rfl
theorem e224_58 : exq sa F N S rt cd224 P Q 58 L st h = (ldI L 2 fun v => P 59 L (.int v :: st) h) := rfl
theorem e224_59 : exq sa F N S rt cd224 P Q 59 L st h = (ldR L 0 fun v => P 60 L (v :: st) h) := rfl
theorem e224_60 : exq sa F N S rt cd224 P Q 60 L st h = (tR st fun a s => opt (hO h a 7) fun fs => opt (fs[0]?) fun v => P 63 L (v :: s) h) := rfl
theorem e224_63 : exq sa F N S rt cd224 P Q 63 L st h = (ldI L 3 fun v => P 64 L (.int v :: st) h) := rfl
theorem e224_64 : exq sa F N S rt cd224 P Q 64 L st h = (ald sa st h fun v s => P 65 L (.int v :: s) h) := rfl
theorem e224_65 : exq sa F N S rt cd224 P Q 65 L st h = (tI st fun a s => br (a < 0) (P 72 L s h) (P 68 L s h)) := rfl
theorem e224_68 : exq sa F N S rt cd224 P Q 68 L st h = (P 69 L (.int (Int32.ofInt (1)) :: st) h) := rfl
theorem e224_69 : exq sa F N S rt cd224 P Q 69 L st h = (P 73 L st h) := rfl
theorem e224_72 : exq sa F N S rt cd224 P Q 72 L st h = (P 73 L (.int (Int32.ofInt (0)) :: st) h) := rfl
theorem e224_73 : exq sa F N S rt cd224 P Q 73 L st h = (tI st fun b s => tI s fun a s => P 74 L (.int (a + b) :: s) h) := rfl
theorem e224_74 : exq sa F N S rt cd224 P Q 74 L st h = (tI st fun v s => lvS L 2 (.int v) fun L' => P 75 L' s h) := rfl
theorem e224_75 : exq sa F N S rt cd224 P Q 75 L st h = (ldI L 3 fun v => lvS L 3 (.int (v + Int32.ofInt (1))) fun L' => P 78 L' st h) := rfl
theorem e224_78 : exq sa F N S rt cd224 P Q 78 L st h = (P 52 L st h) := rfl
theorem e224_81 : exq sa F N S rt cd224 P Q 81 L st h = (ldI L 2 fun v => P 82 L (.int v :: st) h) := rfl
theorem e224_82 : exq sa F N S rt cd224 P Q 82 L st h = (tI st fun v s => s = [] ∧ (rt = some .int ∨ (rt = some .boolean ∧ (v = 0 ∨ v = 1))) ∧ Q (some (.int v)) h) := rfl
theorem e224_83 : exq sa F N S rt cd224 P Q 83 L st h = (ldR L 0 fun v => P 84 L (v :: st) h) := rfl
theorem e224_84 : exq sa F N S rt cd224 P Q 84 L st h = (tR st fun a s => opt (hO h a 7) fun fs => opt (fs[16]?) fun v => P 87 L (v :: s) h) := rfl
theorem e224_87 : exq sa F N S rt cd224 P Q 87 L st h = (P 88 L (.int (Int32.ofInt (0)) :: st) h) := rfl
theorem e224_88 : exq sa F N S rt cd224 P Q 88 L st h = (ald sa st h fun v s => P 89 L (.int v :: s) h) := rfl
theorem e224_89 : exq sa F N S rt cd224 P Q 89 L st h = (tI st fun v s => s = [] ∧ (rt = some .int ∨ (rt = some .boolean ∧ (v = 0 ∨ v = 1))) ∧ Q (some (.int v)) h) := rfl
theorem e224_90 : exq sa F N S rt cd224 P Q 90 L st h = (ldR L 0 fun v => P 91 L (v :: st) h) := rfl
theorem e224_91 : exq sa F N S rt cd224 P Q 91 L st h = (tR st fun a s => opt (hO h a 7) fun fs => opt (fs[16]?) fun v => P 94 L (v :: s) h) := rfl
theorem e224_94 : exq sa F N S rt cd224 P Q 94 L st h = (P 95 L (.int (Int32.ofInt (1)) :: st) h) := rfl
theorem e224_95 : exq sa F N S rt cd224 P Q 95 L st h = (ald sa st h fun v s => P 96 L (.int v :: s) h) := rfl
theorem e224_96 : exq sa F N S rt cd224 P Q 96 L st h = (tI st fun v s => s = [] ∧ (rt = some .int ∨ (rt = some .boolean ∧ (v = 0 ∨ v = 1))) ∧ Q (some (.int v)) h) := rfl
theorem e224_97 : exq sa F N S rt cd224 P Q 97 L st h = (ldR L 0 fun v => P 98 L (v :: st) h) := rfl
theorem e224_98 : exq sa F N S rt cd224 P Q 98 L st h = (tR st fun a s => opt (hO h a 7) fun fs => opt (fs[17]?) fun v => P 101 L (v :: s) h) := rfl
theorem e224_101 : exq sa F N S rt cd224 P Q 101 L st h = (P 102 L (.int (Int32.ofInt (0)) :: st) h) := rfl
theorem e224_102 : exq sa F N S rt cd224 P Q 102 L st h = (ald sa st h fun v s => P 103 L (.int v :: s) h) := rfl
theorem e224_103 : exq sa F N S rt cd224 P Q 103 L st h = (tI st fun v s => s = [] ∧ (rt = some .int ∨ (rt = some .boolean ∧ (v = 0 ∨ v = 1))) ∧ Q (some (.int v)) h) := rfl
theorem e224_104 : exq sa F N S rt cd224 P Q 104 L st h = (ldR L 0 fun v => P 105 L (v :: st) h) := rfl
theorem e224_105 : exq sa F N S rt cd224 P Q 105 L st h = (tR st fun a s => opt (hO h a 7) fun fs => opt (fs[17]?) fun v => P 108 L (v :: s) h) := rfl
theorem e224_108 : exq sa F N S rt cd224 P Q 108 L st h = (P 109 L (.int (Int32.ofInt (1)) :: st) h) := rfl
theorem e224_109 : exq sa F N S rt cd224 P Q 109 L st h = (ald sa st h fun v s => P 110 L (.int v :: s) h) := rfl
theorem e224_110 : exq sa F N S rt cd224 P Q 110 L st h = (ivS F 137 1 st h fun r s h' => P 113 L (pu r s) h') := rfl
theorem e224_113 : exq sa F N S rt cd224 P Q 113 L st h = (tI st fun v s => s = [] ∧ (rt = some .int ∨ (rt = some .boolean ∧ (v = 0 ∨ v = 1))) ∧ Q (some (.int v)) h) := rfl
theorem e224_114 : exq sa F N S rt cd224 P Q 114 L st h = (ldR L 0 fun v => P 115 L (v :: st) h) := rfl
theorem e224_115 : exq sa F N S rt cd224 P Q 115 L st h = (ldR L 0 fun v => P 116 L (v :: st) h) := rfl
theorem e224_116 : exq sa F N S rt cd224 P Q 116 L st h = (tR st fun a s => opt (hO h a 7) fun fs => opt (fs[17]?) fun v => P 119 L (v :: s) h) := rfl
theorem e224_119 : exq sa F N S rt cd224 P Q 119 L st h = (P 120 L (.int (Int32.ofInt (2)) :: st) h) := rfl
theorem e224_120 : exq sa F N S rt cd224 P Q 120 L st h = (ivV F 175 3 7 st h fun r s h' => P 123 L (pu r s) h') := rfl
theorem e224_123 : exq sa F N S rt cd224 P Q 123 L st h = (ivS F 137 1 st h fun r s h' => P 126 L (pu r s) h') := rfl
theorem e224_126 : exq sa F N S rt cd224 P Q 126 L st h = (tI st fun v s => s = [] ∧ (rt = some .int ∨ (rt = some .boolean ∧ (v = 0 ∨ v = 1))) ∧ Q (some (.int v)) h) := rfl
theorem e224_127 : exq sa F N S rt cd224 P Q 127 L st h = (ldR L 0 fun v => P 128 L (v :: st) h) := rfl
theorem e224_128 : exq sa F N S rt cd224 P Q 128 L st h = (tR st fun a s => opt (hO h a 7) fun fs => opt (fs[20]?) fun v => P 131 L (v :: s) h) := rfl
theorem e224_131 : exq sa F N S rt cd224 P Q 131 L st h = (tI st fun v s => s = [] ∧ (rt = some .int ∨ (rt = some .boolean ∧ (v = 0 ∨ v = 1))) ∧ Q (some (.int v)) h) := rfl
theorem e224_132 : exq sa F N S rt cd224 P Q 132 L st h = (ldR L 0 fun v => P 133 L (v :: st) h) := rfl
theorem e224_133 : exq sa F N S rt cd224 P Q 133 L st h = (tR st fun a s => opt (hO h a 7) fun fs => opt (fs[4]?) fun v => P 136 L (v :: s) h) := rfl
theorem e224_136 : exq sa F N S rt cd224 P Q 136 L st h = (tI st fun v s => s = [] ∧ (rt = some .int ∨ (rt = some .boolean ∧ (v = 0 ∨ v = 1))) ∧ Q (some (.int v)) h) := rfl
theorem e224_137 : exq sa F N S rt cd224 P Q 137 L st h = (P 139 L (.int (Int32.ofInt (-1000001)) :: st) h) := rfl
theorem e224_139 : exq sa F N S rt cd224 P Q 139 L st h = (tI st fun v s => s = [] ∧ (rt = some .int ∨ (rt = some .boolean ∧ (v = 0 ∨ v = 1))) ∧ Q (some (.int v)) h) := rfl
theorem e225_0 : exq sa F N S rt cd225 P Q 0 L st h = (ldI L 0 fun v => P 1 L (.int v :: st) h) := rfl
theorem e225_1 : exq sa F N S rt cd225 P Q 1 L st h = (ldI L 0 fun v => P 2 L (.int v :: st) h) := rfl
theorem e225_2 : exq sa F N S rt cd225 P Q 2 L st h = (P 3 L (.int (Int32.ofInt (1)) :: st) h) := rfl
theorem e225_3 : exq sa F N S rt cd225 P Q 3 L st h = (tI st fun b s => tI s fun a s => P 4 L (.int (a.toUInt32 >>> (b.toUInt32 &&& Int32.toUInt32 31)).toInt32 :: s) h) := rfl
theorem e225_4 : exq sa F N S rt cd225 P Q 4 L st h = (P 7 L (.int (Int32.ofInt (1431655765)) :: st) h) := rfl
theorem e225_7 : exq sa F N S rt cd225 P Q 7 L st h = (tI st fun b s => tI s fun a s => P 8 L (.int (a &&& b) :: s) h) := rfl
theorem e225_8 : exq sa F N S rt cd225 P Q 8 L st h = (tI st fun b s => tI s fun a s => P 9 L (.int (a - b) :: s) h) := rfl
theorem e225_9 : exq sa F N S rt cd225 P Q 9 L st h = (tI st fun v s => lvS L 0 (.int v) fun L' => P 10 L' s h) := rfl
theorem e225_10 : exq sa F N S rt cd225 P Q 10 L st h = (ldI L 0 fun v => P 11 L (.int v :: st) h) := rfl
theorem e225_11 : exq sa F N S rt cd225 P Q 11 L st h = (P 14 L (.int (Int32.ofInt (858993459)) :: st) h) := rfl
theorem e225_14 : exq sa F N S rt cd225 P Q 14 L st h = (tI st fun b s => tI s fun a s => P 15 L (.int (a &&& b) :: s) h) := rfl
theorem e225_15 : exq sa F N S rt cd225 P Q 15 L st h = (ldI L 0 fun v => P 16 L (.int v :: st) h) := rfl
theorem e225_16 : exq sa F N S rt cd225 P Q 16 L st h = (P 17 L (.int (Int32.ofInt (2)) :: st) h) := rfl
theorem e225_17 : exq sa F N S rt cd225 P Q 17 L st h = (tI st fun b s => tI s fun a s => P 18 L (.int (a.toUInt32 >>> (b.toUInt32 &&& Int32.toUInt32 31)).toInt32 :: s) h) := rfl
theorem e225_18 : exq sa F N S rt cd225 P Q 18 L st h = (P 21 L (.int (Int32.ofInt (858993459)) :: st) h) := rfl
theorem e225_21 : exq sa F N S rt cd225 P Q 21 L st h = (tI st fun b s => tI s fun a s => P 22 L (.int (a &&& b) :: s) h) := rfl
theorem e225_22 : exq sa F N S rt cd225 P Q 22 L st h = (tI st fun b s => tI s fun a s => P 23 L (.int (a + b) :: s) h) := rfl
theorem e225_23 : exq sa F N S rt cd225 P Q 23 L st h = (tI st fun v s => lvS L 0 (.int v) fun L' => P 24 L' s h) := rfl
theorem e225_24 : exq sa F N S rt cd225 P Q 24 L st h = (ldI L 0 fun v => P 25 L (.int v :: st) h) := rfl
theorem e225_25 : exq sa F N S rt cd225 P Q 25 L st h = (ldI L 0 fun v => P 26 L (.int v :: st) h) := rfl
theorem e225_26 : exq sa F N S rt cd225 P Q 26 L st h = (P 27 L (.int (Int32.ofInt (4)) :: st) h) := rfl
theorem e225_27 : exq sa F N S rt cd225 P Q 27 L st h = (tI st fun b s => tI s fun a s => P 28 L (.int (a.toUInt32 >>> (b.toUInt32 &&& Int32.toUInt32 31)).toInt32 :: s) h) := rfl
theorem e225_28 : exq sa F N S rt cd225 P Q 28 L st h = (tI st fun b s => tI s fun a s => P 29 L (.int (a + b) :: s) h) := rfl
theorem e225_29 : exq sa F N S rt cd225 P Q 29 L st h = (P 32 L (.int (Int32.ofInt (252645135)) :: st) h) := rfl
theorem e225_32 : exq sa F N S rt cd225 P Q 32 L st h = (tI st fun b s => tI s fun a s => P 33 L (.int (a &&& b) :: s) h) := rfl
theorem e225_33 : exq sa F N S rt cd225 P Q 33 L st h = (tI st fun v s => lvS L 0 (.int v) fun L' => P 34 L' s h) := rfl
theorem e225_34 : exq sa F N S rt cd225 P Q 34 L st h = (ldI L 0 fun v => P 35 L (.int v :: st) h) := rfl
theorem e225_35 : exq sa F N S rt cd225 P Q 35 L st h = (ldI L 0 fun v => P 36 L (.int v :: st) h) := rfl
theorem e225_36 : exq sa F N S rt cd225 P Q 36 L st h = (P 38 L (.int (Int32.ofInt (8)) :: st) h) := rfl
theorem e225_38 : exq sa F N S rt cd225 P Q 38 L st h = (tI st fun b s => tI s fun a s => P 39 L (.int (a.toUInt32 >>> (b.toUInt32 &&& Int32.toUInt32 31)).toInt32 :: s) h) := rfl
theorem e225_39 : exq sa F N S rt cd225 P Q 39 L st h = (tI st fun b s => tI s fun a s => P 40 L (.int (a + b) :: s) h) := rfl
theorem e225_40 : exq sa F N S rt cd225 P Q 40 L st h = (tI st fun v s => lvS L 0 (.int v) fun L' => P 41 L' s h) := rfl
theorem e225_41 : exq sa F N S rt cd225 P Q 41 L st h = (ldI L 0 fun v => P 42 L (.int v :: st) h) := rfl
theorem e225_42 : exq sa F N S rt cd225 P Q 42 L st h = (ldI L 0 fun v => P 43 L (.int v :: st) h) := rfl
theorem e225_43 : exq sa F N S rt cd225 P Q 43 L st h = (P 45 L (.int (Int32.ofInt (16)) :: st) h) := rfl
theorem e225_45 : exq sa F N S rt cd225 P Q 45 L st h = (tI st fun b s => tI s fun a s => P 46 L (.int (a.toUInt32 >>> (b.toUInt32 &&& Int32.toUInt32 31)).toInt32 :: s) h) := rfl
theorem e225_46 : exq sa F N S rt cd225 P Q 46 L st h = (tI st fun b s => tI s fun a s => P 47 L (.int (a + b) :: s) h) := rfl
theorem e225_47 : exq sa F N S rt cd225 P Q 47 L st h = (tI st fun v s => lvS L 0 (.int v) fun L' => P 48 L' s h) := rfl
theorem e225_48 : exq sa F N S rt cd225 P Q 48 L st h = (ldI L 0 fun v => P 49 L (.int v :: st) h) := rfl
theorem e225_49 : exq sa F N S rt cd225 P Q 49 L st h = (P 51 L (.int (Int32.ofInt (63)) :: st) h) := rfl
theorem e225_51 : exq sa F N S rt cd225 P Q 51 L st h = (tI st fun b s => tI s fun a s => P 52 L (.int (a &&& b) :: s) h) := rfl
theorem e225_52 : exq sa F N S rt cd225 P Q 52 L st h = (tI st fun v s => s = [] ∧ (rt = some .int ∨ (rt = some .boolean ∧ (v = 0 ∨ v = 1))) ∧ Q (some (.int v)) h) := rfl
end EL
