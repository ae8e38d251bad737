/-! what each instruction does -/
section EL
variable {sa : aS} {F : aF} {N S : Nat} {rt : Option FieldType} {P : aK} {Q : aQ} {L : aL} {st : List Value} {h : aH}
theorem e106_0 : exq sa F N S rt cd106 P Q 0 L st h = (ldR L 0 fun v => P 1 L (v :: st) h) := rfl
theorem e106_1 : exq sa F N S rt cd106 P Q 1 L st h = (tR st fun a s => opt (hO h a 6) fun fs => opt (fs[2]?) fun v => P 4 L (v :: s) h) := rfl
theorem e106_4 : exq sa F N S rt cd106 P Q 4 L st h = (ivV F 16 1 2 st h fun r s h' => P 7 L (pu r s) h') := rfl
theorem e106_7 : exq sa F N S rt cd106 P Q 7 L st h = (tI st fun a s => br (a = 0) (P 10 L s h) (P 13 L s h)) := rfl
theorem e106_10 : exq sa F N S rt cd106 P Q 10 L st h = (P 12 L (.int (Int32.ofInt (-1000002)) :: st) h) := rfl
theorem e106_12 : exq sa F N S rt cd106 P Q 12 L st h = (tI st fun v s => s = [] ∧ (rt = some .int ∨ (rt = some .boolean ∧ (v = 0 ∨ v = 1))) ∧ Q (some (.int v)) h) := rfl
theorem e106_13 : exq sa F N S rt cd106 P Q 13 L st h = (ldI L 1 fun v => P 14 L (.int v :: st) h) := rfl
theorem e106_14 : exq sa F N S rt cd106 P Q 14 L st h = (ex1 sa F N S rt P Q 14 L st h (.tableswitch 88 0 5 #[38, 47, 56, 64, 72, 80]) 0 0 0 0) := rfl
theorem e106_52 : exq sa F N S rt cd106 P Q 52 L st h = (ldR L 0 fun v => P 53 L (v :: st) h) := rfl
theorem e106_53 : exq sa F N S rt cd106 P Q 53 L st h = (tR st fun a s => opt (hO h a 6) fun fs => opt (fs[2]?) fun v => P 56 L (v :: s) h) := rfl
theorem e106_56 : exq sa F N S rt cd106 P Q 56 L st h = (P 57 L (.int (Int32.ofInt (1)) :: st) h) := rfl
theorem e106_57 : exq sa F N S rt cd106 P Q 57 L st h = (ivV F 22 2 2 st h fun r s h' => P 60 L (pu r s) h') := rfl
theorem e106_60 : exq sa F N S rt cd106 P Q 60 L st h = (tI st fun v s => s = [] ∧ (rt = some .int ∨ (rt = some .boolean ∧ (v = 0 ∨ v = 1))) ∧ Q (some (.int v)) h) := rfl
theorem e106_61 : exq sa F N S rt cd106 P Q 61 L st h = (ldR L 0 fun v => P 62 L (v :: st) h) := rfl
theorem e106_62 : exq sa F N S rt cd106 P Q 62 L st h = (tR st fun a s => opt (hO h a 6) fun fs => opt (fs[2]?) fun v => P 65 L (v :: s) h) := rfl
theorem e106_65 : exq sa F N S rt cd106 P Q 65 L st h = (P 66 L (.int (Int32.ofInt (2)) :: st) h) := rfl
theorem e106_66 : exq sa F N S rt cd106 P Q 66 L st h = (ivV F 22 2 2 st h fun r s h' => P 69 L (pu r s) h') := rfl
theorem e106_69 : exq sa F N S rt cd106 P Q 69 L st h = (tI st fun v s => s = [] ∧ (rt = some .int ∨ (rt = some .boolean ∧ (v = 0 ∨ v = 1))) ∧ Q (some (.int v)) h) := rfl
theorem e106_70 : exq sa F N S rt cd106 P Q 70 L st h = (ldR L 0 fun v => P 71 L (v :: st) h) := rfl
theorem e106_71 : exq sa F N S rt cd106 P Q 71 L st h = (tR st fun a s => opt (hO h a 6) fun fs => opt (fs[2]?) fun v => P 74 L (v :: s) h) := rfl
theorem e106_74 : exq sa F N S rt cd106 P Q 74 L st h = (tR st fun a s => opt (hO h a 2) fun fs => opt (fs[13]?) fun v => P 77 L (v :: s) h) := rfl
theorem e106_77 : exq sa F N S rt cd106 P Q 77 L st h = (tI st fun v s => s = [] ∧ (rt = some .int ∨ (rt = some .boolean ∧ (v = 0 ∨ v = 1))) ∧ Q (some (.int v)) h) := rfl
theorem e106_78 : exq sa F N S rt cd106 P Q 78 L st h = (ldR L 0 fun v => P 79 L (v :: st) h) := rfl
theorem e106_79 : exq sa F N S rt cd106 P Q 79 L st h = (tR st fun a s => opt (hO h a 6) fun fs => opt (fs[2]?) fun v => P 82 L (v :: s) h) := rfl
theorem e106_82 : exq sa F N S rt cd106 P Q 82 L st h = (ivV F 21 1 2 st h fun r s h' => P 85 L (pu r s) h') := rfl
theorem e106_85 : exq sa F N S rt cd106 P Q 85 L st h = (tI st fun v s => s = [] ∧ (rt = some .int ∨ (rt = some .boolean ∧ (v = 0 ∨ v = 1))) ∧ Q (some (.int v)) h) := rfl
theorem e106_86 : exq sa F N S rt cd106 P Q 86 L st h = (ldR L 0 fun v => P 87 L (v :: st) h) := rfl
theorem e106_87 : exq sa F N S rt cd106 P Q 87 L st h = (tR st fun a s => opt (hO h a 6) fun fs => opt (fs[2]?) fun v => P 90 L (v :: s) h) := rfl
theorem e106_90 : exq sa F N S rt cd106 P Q 90 L st h = (tR st fun a s => opt (hO h a 2) fun fs => opt (fs[0]?) fun v => P 93 L (v :: s) h) := rfl
theorem e106_93 : exq sa F N S rt cd106 P Q 93 L st h = (tI st fun v s => s = [] ∧ (rt = some .int ∨ (rt = some .boolean ∧ (v = 0 ∨ v = 1))) ∧ Q (some (.int v)) h) := rfl
theorem e106_94 : exq sa F N S rt cd106 P Q 94 L st h = (ldR L 0 fun v => P 95 L (v :: st) h) := rfl
theorem e106_95 : exq sa F N S rt cd106 P Q 95 L st h = (tR st fun a s => opt (hO h a 6) fun fs => opt (fs[2]?) fun v => P 98 L (v :: s) h) := rfl
theorem e106_98 : exq sa F N S rt cd106 P Q 98 L st h = (tR st fun a s => opt (hO h a 2) fun fs => opt (fs[1]?) fun v => P 101 L (v :: s) h) := rfl
theorem e106_101 : exq sa F N S rt cd106 P Q 101 L st h = (tI st fun v s => s = [] ∧ (rt = some .int ∨ (rt = some .boolean ∧ (v = 0 ∨ v = 1))) ∧ Q (some (.int v)) h) := rfl
theorem e106_102 : exq sa F N S rt cd106 P Q 102 L st h = (P 104 L (.int (Int32.ofInt (-1000001)) :: st) h) := rfl
theorem e106_104 : exq sa F N S rt cd106 P Q 104 L st h = (tI st fun v s => s = [] ∧ (rt = some .int ∨ (rt = some .boolean ∧ (v = 0 ∨ v = 1))) ∧ Q (some (.int v)) h) := rfl
theorem e107_0 : exq sa F N S rt cd107 P Q 0 L st h = (ldR L 0 fun v => P 1 L (v :: st) h) := rfl
theorem e107_1 : exq sa F N S rt cd107 P Q 1 L st h = (tR st fun a s => opt (hO h a 6) fun fs => opt (fs[2]?) fun v => P 4 L (v :: s) h) := rfl
theorem e107_4 : exq sa F N S rt cd107 P Q 4 L st h = (ldI L 1 fun v => P 5 L (.int v :: st) h) := rfl
theorem e107_5 : exq sa F N S rt cd107 P Q 5 L st h = (ivV F 17 2 2 st h fun r s h' => P 8 L (pu r s) h') := rfl
theorem e107_8 : exq sa F N S rt cd107 P Q 8 L st h = (tI st fun a s => br (a = 0) (P 28 L s h) (P 11 L s h)) := rfl
theorem e107_11 : exq sa F N S rt cd107 P Q 11 L st h = (ldI L 2 fun v => P 12 L (.int v :: st) h) := rfl
theorem e107_12 : exq sa F N S rt cd107 P Q 12 L st h = (P 13 L (.int (Int32.ofInt (0)) :: st) h) := rfl
theorem e107_13 : exq sa F N S rt cd107 P Q 13 L st h = (P 15 L (.int (Int32.ofInt (60)) :: st) h) := rfl
theorem e107_15 : exq sa F N S rt cd107 P Q 15 L st h = (ivS F 131 3 st h fun r s h' => P 18 L (pu r s) h') := rfl
theorem e107_18 : exq sa F N S rt cd107 P Q 18 L st h = (tI st fun a s => br (a = 0) (P 28 L s h) (P 21 L s h)) := rfl
theorem e107_21 : exq sa F N S rt cd107 P Q 21 L st h = (ldI L 3 fun v => P 22 L (.int v :: st) h) := rfl
theorem e107_22 : exq sa F N S rt cd107 P Q 22 L st h = (ivS F 132 1 st h fun r s h' => P 25 L (pu r s) h') := rfl
theorem e107_25 : exq sa F N S rt cd107 P Q 25 L st h = (tI st fun a s => br (a = 0) (P 28 L s h) (P 31 L s h)) := rfl
theorem e107_28 : exq sa F N S rt cd107 P Q 28 L st h = (P 30 L (.int (Int32.ofInt (-1000001)) :: st) h) := rfl
theorem e107_30 : exq sa F N S rt cd107 P Q 30 L st h = (tI st fun v s => s = [] ∧ (rt = some .int ∨ (rt = some .boolean ∧ (v = 0 ∨ v = 1))) ∧ Q (some (.int v)) h) := rfl
theorem e107_31 : exq sa F N S rt cd107 P Q 31 L st h = (ldR L 0 fun v => P 32 L (v :: st) h) := rfl
theorem e107_32 : exq sa F N S rt cd107 P Q 32 L st h = (tR st fun a s => opt (hO h a 6) fun fs => opt (fs[4]?) fun v => P 35 L (v :: s) h) := rfl
theorem e107_35 : exq sa F N S rt cd107 P Q 35 L st h = (ldR L 0 fun v => P 36 L (v :: st) h) := rfl
theorem e107_36 : exq sa F N S rt cd107 P Q 36 L st h = (tR st fun a s => opt (hO h a 6) fun fs => opt (fs[2]?) fun v => P 39 L (v :: s) h) := rfl
theorem e107_39 : exq sa F N S rt cd107 P Q 39 L st h = (ldI L 2 fun v => P 40 L (.int v :: st) h) := rfl
theorem e107_40 : exq sa F N S rt cd107 P Q 40 L st h = (ivV F 40 3 3 st h fun r s h' => P 43 L (pu r s) h') := rfl
theorem e107_43 : exq sa F N S rt cd107 P Q 43 L st h = (tR st fun v s => lvS L 4 (.ref v) fun L' => P 45 L' s h) := rfl
theorem e107_45 : exq sa F N S rt cd107 P Q 45 L st h = (ldI L 3 fun v => P 46 L (.int v :: st) h) := rfl
theorem e107_46 : exq sa F N S rt cd107 P Q 46 L st h = (P 47 L (.int (Int32.ofInt (1)) :: st) h) := rfl
theorem e107_47 : exq sa F N S rt cd107 P Q 47 L st h = (tI st fun b s => tI s fun a s => br (a = b) (P 50 L s h) (P 58 L s h)) := rfl
theorem e107_50 : exq sa F N S rt cd107 P Q 50 L st h = (ldR L 4 fun v => P 52 L (v :: st) h) := rfl
theorem e107_52 : exq sa F N S rt cd107 P Q 52 L st h = (tR st fun a s => opt (hO h a 2) fun fs => opt (fs[5]?) fun v => P 55 L (v :: s) h) := rfl
theorem e107_55 : exq sa F N S rt cd107 P Q 55 L st h = (ldI L 1 fun v => P 56 L (.int v :: st) h) := rfl
theorem e107_56 : exq sa F N S rt cd107 P Q 56 L st h = (ald sa st h fun v s => P 57 L (.int v :: s) h) := rfl
theorem e107_57 : exq sa F N S rt cd107 P Q 57 L st h = (tI st fun v s => s = [] ∧ (rt = some .int ∨ (rt = some .boolean ∧ (v = 0 ∨ v = 1))) ∧ Q (some (.int v)) h) := rfl
theorem e107_58 : exq sa F N S rt cd107 P Q 58 L st h = (ldR L 4 fun v => P 60 L (v :: st) h) := rfl
theorem e107_60 : exq sa F N S rt cd107 P Q 60 L st h = (tR st fun a s => opt (hO h a 2) fun fs => opt (fs[7]?) fun v => P 63 L (v :: s) h) := rfl
theorem e107_63 : exq sa F N S rt cd107 P Q 63 L st h = (ldI L 1 fun v => P 64 L (.int v :: st) h) := rfl
theorem e107_64 : exq sa F N S rt cd107 P Q 64 L st h = (ald sa st h fun v s => P 65 L (.int v :: s) h) := rfl
theorem e107_65 : exq sa F N S rt cd107 P Q 65 L st h = (P 66 L (.int (Int32.ofInt (2)) :: st) h) := rfl
theorem e107_66 : exq sa F N S rt cd107 P Q 66 L st h = (tI st fun b s => tI s fun a s => br (a = b) (P 69 L s h) (P 74 L s h)) := rfl
theorem e107_69 : exq sa F N S rt cd107 P Q 69 L st h = (P 71 L (.int (Int32.ofInt (-1000000)) :: st) h) := rfl
theorem e107_71 : exq sa F N S rt cd107 P Q 71 L st h = (P 81 L st h) := rfl
theorem e107_74 : exq sa F N S rt cd107 P Q 74 L st h = (ldR L 4 fun v => P 76 L (v :: st) h) := rfl
theorem e107_76 : exq sa F N S rt cd107 P Q 76 L st h = (tR st fun a s => opt (hO h a 2) fun fs => opt (fs[6]?) fun v => P 79 L (v :: s) h) := rfl
theorem e107_79 : exq sa F N S rt cd107 P Q 79 L st h = (ldI L 1 fun v => P 80 L (.int v :: st) h) := rfl
theorem e107_80 : exq sa F N S rt cd107 P Q 80 L st h = (ald sa st h fun v s => P 81 L (.int v :: s) h) := rfl
theorem e107_81 : exq sa F N S rt cd107 P Q 81 L st h = (tI st fun v s => s = [] ∧ (rt = some .int ∨ (rt = some .boolean ∧ (v = 0 ∨ v = 1))) ∧ Q (some (.int v)) h) := rfl
theorem e108_0 : exq sa F N S rt cd108 P Q 0 L st h = (ldR L 0 fun v => P 1 L (v :: st) h) := rfl
theorem e108_1 : exq sa F N S rt cd108 P Q 1 L st h = (tR st fun a s => opt (hO h a 6) fun fs => opt (fs[2]?) fun v => P 4 L (v :: s) h) := rfl
theorem e108_4 : exq sa F N S rt cd108 P Q 4 L st h = (ldI L 1 fun v => P 5 L (.int v :: st) h) := rfl
theorem e108_5 : exq sa F N S rt cd108 P Q 5 L st h = (ivV F 18 2 2 st h fun r s h' => P 8 L (pu r s) h') := rfl
theorem e108_8 : exq sa F N S rt cd108 P Q 8 L st h = (tI st fun a s => br (a = 0) (P 21 L s h) (P 11 L s h)) := rfl
theorem e108_11 : exq sa F N S rt cd108 P Q 11 L st h = (ldI L 2 fun v => P 12 L (.int v :: st) h) := rfl
theorem e108_12 : exq sa F N S rt cd108 P Q 12 L st h = (P 13 L (.int (Int32.ofInt (0)) :: st) h) := rfl
theorem e108_13 : exq sa F N S rt cd108 P Q 13 L st h = (P 15 L (.int (Int32.ofInt (60)) :: st) h) := rfl
theorem e108_15 : exq sa F N S rt cd108 P Q 15 L st h = (ivS F 131 3 st h fun r s h' => P 18 L (pu r s) h') := rfl
theorem e108_18 : exq sa F N S rt cd108 P Q 18 L st h = (tI st fun a s => br (a = 0) (P 21 L s h) (P 24 L s h)) := rfl
theorem e108_21 : exq sa F N S rt cd108 P Q 21 L st h = (P 23 L (.int (Int32.ofInt (-1000001)) :: st) h) := rfl
theorem e108_23 : exq sa F N S rt cd108 P Q 23 L st h = (tI st fun v s => s = [] ∧ (rt = some .int ∨ (rt = some .boolean ∧ (v = 0 ∨ v = 1))) ∧ Q (some (.int v)) h) := rfl
theorem e108_24 : exq sa F N S rt cd108 P Q 24 L st h = (ldR L 0 fun v => P 25 L (v :: st) h) := rfl
theorem e108_25 : exq sa F N S rt cd108 P Q 25 L st h = (tR st fun a s => opt (hO h a 6) fun fs => opt (fs[4]?) fun v => P 28 L (v :: s) h) := rfl
theorem e108_28 : exq sa F N S rt cd108 P Q 28 L st h = (ldR L 0 fun v => P 29 L (v :: st) h) := rfl
theorem e108_29 : exq sa F N S rt cd108 P Q 29 L st h = (tR st fun a s => opt (hO h a 6) fun fs => opt (fs[2]?) fun v => P 32 L (v :: s) h) := rfl
theorem e108_32 : exq sa F N S rt cd108 P Q 32 L st h = (ldI L 2 fun v => P 33 L (.int v :: st) h) := rfl
theorem e108_33 : exq sa F N S rt cd108 P Q 33 L st h = (ivV F 40 3 3 st h fun r s h' => P 36 L (pu r s) h') := rfl
theorem e108_36 : exq sa F N S rt cd108 P Q 36 L st h = (tR st fun v s => lvS L 3 (.ref v) fun L' => P 37 L' s h) := rfl
theorem e108_37 : exq sa F N S rt cd108 P Q 37 L st h = (ldR L 3 fun v => P 38 L (v :: st) h) := rfl
theorem e108_38 : exq sa F N S rt cd108 P Q 38 L st h = (ldI L 1 fun v => P 39 L (.int v :: st) h) := rfl
theorem e108_39 : exq sa F N S rt cd108 P Q 39 L st h = (ivV F 20 2 2 st h fun r s h' => P 42 L (pu r s) h') := rfl
theorem e108_42 : exq sa F N S rt cd108 P Q 42 L st h = (tI st fun a s => br (a = 0) (P 50 L s h) (P 45 L s h)) := rfl
theorem e108_45 : exq sa F N S rt cd108 P Q 45 L st h = (P 47 L (.int (Int32.ofInt (-1000000)) :: st) h) := rfl
theorem e108_47 : exq sa F N S rt cd108 P Q 47 L st h = (P 56 L st h) := rfl
theorem e108_50 : exq sa F N S rt cd108 P Q 50 L st h = (ldR L 3 fun v => P 51 L (v :: st) h) := rfl
theorem e108_51 : exq sa F N S rt cd108 P Q 51 L st h = (tR st fun a s => opt (hO h a 2) fun fs => opt (fs[10]?) fun v => P 54 L (v :: s) h) := rfl
theorem e108_54 : exq sa F N S rt cd108 P Q 54 L st h = (ldI L 1 fun v => P 55 L (.int v :: st) h) := rfl
theorem e108_55 : exq sa F N S rt cd108 P Q 55 L st h = (ald sa st h fun v s => P 56 L (.int v :: s) h) := rfl
theorem e108_56 : exq sa F N S rt cd108 P Q 56 L st h = (tI st fun v s => s = [] ∧ (rt = some .int ∨ (rt = some .boolean ∧ (v = 0 ∨ v = 1))) ∧ Q (some (.int v)) h) := rfl
theorem e109_0 : exq sa F N S rt cd109 P Q 0 L st h = (ldR L 0 fun v => P 1 L (v :: st) h) := rfl
theorem e109_1 : exq sa F N S rt cd109 P Q 1 L st h = (tR st fun a s => opt (hO h a 6) fun fs => opt (fs[2]?) fun v => P 4 L (v :: s) h) := rfl
theorem e109_4 : exq sa F N S rt cd109 P Q 4 L st h = (ldI L 1 fun v => P 5 L (.int v :: st) h) := rfl
theorem e109_5 : exq sa F N S rt cd109 P Q 5 L st h = (ivV F 18 2 2 st h fun r s h' => P 8 L (pu r s) h') := rfl
theorem e109_8 : exq sa F N S rt cd109 P Q 8 L st h = (tI st fun a s => br (a = 0) (P 26 L s h) (P 11 L s h)) := rfl
theorem e109_11 : exq sa F N S rt cd109 P Q 11 L st h = (ldR L 0 fun v => P 12 L (v :: st) h) := rfl
theorem e109_12 : exq sa F N S rt cd109 P Q 12 L st h = (tR st fun a s => opt (hO h a 6) fun fs => opt (fs[4]?) fun v => P 15 L (v :: s) h) := rfl
theorem e109_15 : exq sa F N S rt cd109 P Q 15 L st h = (ldR L 0 fun v => P 16 L (v :: st) h) := rfl
theorem e109_16 : exq sa F N S rt cd109 P Q 16 L st h = (tR st fun a s => opt (hO h a 6) fun fs => opt (fs[2]?) fun v => P 19 L (v :: s) h) := rfl
theorem e109_19 : exq sa F N S rt cd109 P Q 19 L st h = (ldI L 1 fun v => P 20 L (.int v :: st) h) := rfl
theorem e109_20 : exq sa F N S rt cd109 P Q 20 L st h = (ivV F 41 3 3 st h fun r s h' => P 23 L (pu r s) h') := rfl
theorem e109_23 : exq sa F N S rt cd109 P Q 23 L st h = (P 28 L st h) := rfl
theorem e109_26 : exq sa F N S rt cd109 P Q 26 L st h = (P 28 L (.int (Int32.ofInt (-1000001)) :: st) h) := rfl
theorem e109_28 : exq sa F N S rt cd109 P Q 28 L st h = (tI st fun v s => s = [] ∧ (rt = some .int ∨ (rt = some .boolean ∧ (v = 0 ∨ v = 1))) ∧ Q (some (.int v)) h) := rfl
theorem e110_0 : exq sa F N S rt cd110 P Q 0 L st h = (ldR L 0 fun v => P 1 L (v :: st) h) := rfl
theorem e110_1 : exq sa F N S rt cd110 P Q 1 L st h = (tR st fun a s => opt (hO h a 6) fun fs => opt (fs[2]?) fun v => P 4 L (v :: s) h) := rfl
theorem e110_4 : exq sa F N S rt cd110 P Q 4 L st h = (ldI L 1 fun v => P 5 L (.int v :: st) h) := rfl
theorem e110_5 : exq sa F N S rt cd110 P Q 5 L st h = (ivV F 17 2 2 st h fun r s h' => P 8 L (pu r s) h') := rfl
theorem e110_8 : exq sa F N S rt cd110 P Q 8 L st h = (tI st fun a s => br (a = 0) (P 26 L s h) (P 11 L s h)) := rfl
theorem e110_11 : exq sa F N S rt cd110 P Q 11 L st h = (ldR L 0 fun v => P 12 L (v :: st) h) := rfl
theorem e110_12 : exq sa F N S rt cd110 P Q 12 L st h = (tR st fun a s => opt (hO h a 6) fun fs => opt (fs[4]?) fun v => P 15 L (v :: s) h) := rfl
theorem e110_15 : exq sa F N S rt cd110 P Q 15 L st h = (ldR L 0 fun v => P 16 L (v :: st) h) := rfl
theorem e110_16 : exq sa F N S rt cd110 P Q 16 L st h = (tR st fun a s => opt (hO h a 6) fun fs => opt (fs[2]?) fun v => P 19 L (v :: s) h) := rfl
theorem e110_19 : exq sa F N S rt cd110 P Q 19 L st h = (ldI L 1 fun v => P 20 L (.int v :: st) h) := rfl
theorem e110_20 : exq sa F N S rt cd110 P Q 20 L st h = (ivV F 43 3 3 st h fun r s h' => P 23 L (pu r s) h') := rfl
theorem e110_23 : exq sa F N S rt cd110 P Q 23 L st h = (P 28 L st h) := rfl
theorem e110_26 : exq sa F N S rt cd110 P Q 26 L st h = (P 28 L (.int (Int32.ofInt (-1000001)) :: st) h) := rfl
theorem e110_28 : exq sa F N S rt cd110 P Q 28 L st h = (tI st fun v s => s = [] ∧ (rt = some .int ∨ (rt = some .boolean ∧ (v = 0 ∨ v = 1))) ∧ Q (some (.int v)) h) := rfl
theorem e111_0 : exq sa F N S rt cd111 P Q 0 L st h = (ldR L 0 fun v => P 1 L (v :: st) h) := rfl
theorem e111_1 : exq sa F N S rt cd111 P Q 1 L st h = (tR st fun a s => opt (hO h a 6) fun fs => opt (fs[2]?) fun v => P 4 L (v :: s) h) := rfl
theorem e111_4 : exq sa F N S rt cd111 P Q 4 L st h = (ivV F 16 1 2 st h fun r s h' => P 7 L (pu r s) h') := rfl
theorem e111_7 : exq sa F N S rt cd111 P Q 7 L st h = (tI st fun a s => br (a = 0) (P 10 L s h) (P 13 L s h)) := rfl
theorem e111_10 : exq sa F N S rt cd111 P Q 10 L st h = (P 12 L (.int (Int32.ofInt (-1000002)) :: st) h) := rfl
theorem e111_12 : exq sa F N S rt cd111 P Q 12 L st h = (tI st fun v s => s = [] ∧ (rt = some .int ∨ (rt = some .boolean ∧ (v = 0 ∨ v = 1))) ∧ Q (some (.int v)) h) := rfl
theorem e111_13 : exq sa F N S rt cd111 P Q 13 L st h = (ldI L 1 fun v => P 14 L (.int v :: st) h) := rfl
theorem e111_14 : exq sa F N S rt cd111 P Q 14 L st h = (ivS F 132 1 st h fun r s h' => P 17 L (pu r s) h') := rfl
theorem e111_17 : exq sa F N S rt cd111 P Q 17 L st h = (tI st fun a s => br (a = 0) (P 35 L s h) (P 20 L s h)) := rfl
theorem e111_20 : exq sa F N S rt cd111 P Q 20 L st h = (ldR L 0 fun v => P 21 L (v :: st) h) := rfl
theorem e111_21 : exq sa F N S rt cd111 P Q 21 L st h = (tR st fun a s => opt (hO h a 6) fun fs => opt (fs[4]?) fun v => P 24 L (v :: s) h) := rfl
theorem e111_24 : exq sa F N S rt cd111 P Q 24 L st h = (ldR L 0 fun v => P 25 L (v :: st) h) := rfl
theorem e111_25 : exq sa F N S rt cd111 P Q 25 L st h = (tR st fun a s => opt (hO h a 6) fun fs => opt (fs[2]?) fun v => P 28 L (v :: s) h) := rfl
theorem e111_28 : exq sa F N S rt cd111 P Q 28 L st h = (ldI L 1 fun v => P 29 L (.int v :: st) h) := rfl
theorem e111_29 : exq sa F N S rt cd111 P Q 29 L st h = (ivV F 44 3 3 st h fun r s h' => P 32 L (pu r s) h') := rfl
theorem e111_32 : exq sa F N S rt cd111 P Q 32 L st h = (P 37 L st h) := rfl
theorem e111_35 : exq sa F N S rt cd111 P Q 35 L st h = (P 37 L (.int (Int32.ofInt (-1000001)) :: st) h) := rfl
theorem e111_37 : exq sa F N S rt cd111 P Q 37 L st h = (tI st fun v s => s = [] ∧ (rt = some .int ∨ (rt = some .boolean ∧ (v = 0 ∨ v = 1))) ∧ Q (some (.int v)) h) := rfl
theorem e112_0 : exq sa F N S rt cd112 P Q 0 L st h = (ldR L 0 fun v => P 1 L (v :: st) h) := rfl
theorem e112_1 : exq sa F N S rt cd112 P Q 1 L st h = (tR st fun a s => opt (hO h a 6) fun fs => opt (fs[2]?) fun v => P 4 L (v :: s) h) := rfl
theorem e112_4 : exq sa F N S rt cd112 P Q 4 L st h = (ivV F 16 1 2 st h fun r s h' => P 7 L (pu r s) h') := rfl
theorem e112_7 : exq sa F N S rt cd112 P Q 7 L st h = (tI st fun a s => br (a = 0) (P 10 L s h) (P 13 L s h)) := rfl
theorem e112_10 : exq sa F N S rt cd112 P Q 10 L st h = (P 12 L (.int (Int32.ofInt (-1000002)) :: st) h) := rfl
theorem e112_12 : exq sa F N S rt cd112 P Q 12 L st h = (tI st fun v s => s = [] ∧ (rt = some .int ∨ (rt = some .boolean ∧ (v = 0 ∨ v = 1))) ∧ Q (some (.int v)) h) := rfl
theorem e112_13 : exq sa F N S rt cd112 P Q 13 L st h = (ldI L 1 fun v => P 14 L (.int v :: st) h) := rfl
theorem e112_14 : exq sa F N S rt cd112 P Q 14 L st h = (P 15 L (.int (Int32.ofInt (1)) :: st) h) := rfl
theorem e112_15 : exq sa F N S rt cd112 P Q 15 L st h = (P 17 L (.int (Int32.ofInt (60)) :: st) h) := rfl
theorem e112_17 : exq sa F N S rt cd112 P Q 17 L st h = (ivS F 131 3 st h fun r s h' => P 20 L (pu r s) h') := rfl
theorem e112_20 : exq sa F N S rt cd112 P Q 20 L st h = (tI st fun a s => br (a = 0) (P 46 L s h) (P 23 L s h)) := rfl
theorem e112_23 : exq sa F N S rt cd112 P Q 23 L st h = (ldI L 2 fun v => P 24 L (.int v :: st) h) := rfl
theorem e112_24 : exq sa F N S rt cd112 P Q 24 L st h = (ivS F 132 1 st h fun r s h' => P 27 L (pu r s) h') := rfl
theorem e112_27 : exq sa F N S rt cd112 P Q 27 L st h = (tI st fun a s => br (a = 0) (P 46 L s h) (P 30 L s h)) := rfl
theorem e112_30 : exq sa F N S rt cd112 P Q 30 L st h = (ldR L 0 fun v => P 31 L (v :: st) h) := rfl
theorem e112_31 : exq sa F N S rt cd112 P Q 31 L st h = (tR st fun a s => opt (hO h a 6) fun fs => opt (fs[4]?) fun v => P 34 L (v :: s) h) := rfl
theorem e112_34 : exq sa F N S rt cd112 P Q 34 L st h = (ldR L 0 fun v => P 35 L (v :: st) h) := rfl
theorem e112_35 : exq sa F N S rt cd112 P Q 35 L st h = (tR st fun a s => opt (hO h a 6) fun fs => opt (fs[2]?) fun v => P 38 L (v :: s) h) := rfl
theorem e112_38 : exq sa F N S rt cd112 P Q 38 L st h = (ldI L 1 fun v => P 39 L (.int v :: st) h) := rfl
theorem e112_39 : exq sa F N S rt cd112 P Q 39 L st h = (ldI L 2 fun v => P 40 L (.int v :: st) h) := rfl
theorem e112_40 : exq sa F N S rt cd112 P Q 40 L st h = (ivV F 45 4 3 st h fun r s h' => P 43 L (pu r s) h') := rfl
theorem e112_43 : exq sa F N S rt cd112 P Q 43 L st h = (P 48 L st h) := rfl
theorem e112_46 : exq sa F N S rt cd112 P Q 46 L st h = (P 48 L (.int (Int32.ofInt (-1000001)) :: st) h) := rfl
theorem e112_48 : exq sa F N S rt cd112 P Q 48 L st h = (tI st fun v s => s = [] ∧ (rt = some .int ∨ (rt = some .boolean ∧ (v = 0 ∨ v = 1))) ∧ Q (some (.int v)) h) := rfl
theorem e113_0 : exq sa F N S rt cd113 P Q 0 L st h = (ldR L 0 fun v => P 1 L (v :: st) h) := rfl
theorem e113_1 : exq sa F N S rt cd113 P Q 1 L st h = (tR st fun a s => opt (hO h a 6) fun fs => opt (fs[2]?) fun v => P 4 L (v :: s) h) := rfl
theorem e113_4 : exq sa F N S rt cd113 P Q 4 L st h = (ldI L 1 fun v => P 5 L (.int v :: st) h) := rfl
theorem e113_5 : exq sa F N S rt cd113 P Q 5 L st h = (ivV F 17 2 2 st h fun r s h' => P 8 L (pu r s) h') := rfl
theorem e113_8 : exq sa F N S rt cd113 P Q 8 L st h = (tI st fun a s => br (a = 0) (P 29 L s h) (P 11 L s h)) := rfl
theorem e113_11 : exq sa F N S rt cd113 P Q 11 L st h = (ldR L 0 fun v => P 12 L (v :: st) h) := rfl
theorem e113_12 : exq sa F N S rt cd113 P Q 12 L st h = (tR st fun a s => opt (hO h a 6) fun fs => opt (fs[2]?) fun v => P 15 L (v :: s) h) := rfl
theorem e113_15 : exq sa F N S rt cd113 P Q 15 L st h = (ldI L 2 fun v => P 16 L (.int v :: st) h) := rfl
theorem e113_16 : exq sa F N S rt cd113 P Q 16 L st h = (ivV F 18 2 2 st h fun r s h' => P 19 L (pu r s) h') := rfl
theorem e113_19 : exq sa F N S rt cd113 P Q 19 L st h = (tI st fun a s => br (a = 0) (P 29 L s h) (P 22 L s h)) := rfl
theorem e113_22 : exq sa F N S rt cd113 P Q 22 L st h = (ldI L 3 fun v => P 23 L (.int v :: st) h) := rfl
theorem e113_23 : exq sa F N S rt cd113 P Q 23 L st h = (ivS F 132 1 st h fun r s h' => P 26 L (pu r s) h') := rfl
theorem e113_26 : exq sa F N S rt cd113 P Q 26 L st h = (tI st fun a s => br (a = 0) (P 29 L s h) (P 32 L s h)) := rfl
theorem e113_29 : exq sa F N S rt cd113 P Q 29 L st h = (P 31 L (.int (Int32.ofInt (-1000001)) :: st) h) := rfl
theorem e113_31 : exq sa F N S rt cd113 P Q 31 L st h = (tI st fun v s => s = [] ∧ (rt = some .int ∨ (rt = some .boolean ∧ (v = 0 ∨ v = 1))) ∧ Q (some (.int v)) h) := rfl
theorem e113_32 : exq sa F N S rt cd113 P Q 32 L st h = (ldR L 0 fun v => P 33 L (v :: st) h) := rfl
theorem e113_33 : exq sa F N S rt cd113 P Q 33 L st h = (tR st fun a s => opt (hO h a 6) fun fs => opt (fs[2]?) fun v => P 36 L (v :: s) h) := rfl
theorem e113_36 : exq sa F N S rt cd113 P Q 36 L st h = (tR st fun a s => opt (hO h a 2) fun fs => opt (fs[7]?) fun v => P 39 L (v :: s) h) := rfl
theorem e113_39 : exq sa F N S rt cd113 P Q 39 L st h = (ldI L 1 fun v => P 40 L (.int v :: st) h) := rfl
theorem e113_40 : exq sa F N S rt cd113 P Q 40 L st h = (ald sa st h fun v s => P 41 L (.int v :: s) h) := rfl
theorem e113_41 : exq sa F N S rt cd113 P Q 41 L st h = (tI st fun a s => br (a = 0) (P 44 L s h) (P 61 L s h)) := rfl
theorem e113_44 : exq sa F N S rt cd113 P Q 44 L st h = (ldR L 0 fun v => P 45 L (v :: st) h) := rfl
theorem e113_45 : exq sa F N S rt cd113 P Q 45 L st h = (tR st fun a s => opt (hO h a 6) fun fs => opt (fs[4]?) fun v => P 48 L (v :: s) h) := rfl
theorem e113_48 : exq sa F N S rt cd113 P Q 48 L st h = (ldR L 0 fun v => P 49 L (v :: st) h) := rfl
theorem e113_49 : exq sa F N S rt cd113 P Q 49 L st h = (tR st fun a s => opt (hO h a 6) fun fs => opt (fs[2]?) fun v => P 52 L (v :: s) h) := rfl
theorem e113_52 : exq sa F N S rt cd113 P Q 52 L st h = (ldI L 1 fun v => P 53 L (.int v :: st) h) := rfl
theorem e113_53 : exq sa F N S rt cd113 P Q 53 L st h = (ldI L 2 fun v => P 54 L (.int v :: st) h) := rfl
theorem e113_54 : exq sa F N S rt cd113 P Q 54 L st h = (ldI L 3 fun v => P 55 L (.int v :: st) h) := rfl
theorem e113_55 : exq sa F N S rt cd113 P Q 55 L st h = (ivV F 47 5 3 st h fun r s h' => P 58 L (pu r s) h') := rfl
theorem e113_58 : exq sa F N S rt cd113 P Q 58 L st h = (P 63 L st h) := rfl
theorem e113_61 : exq sa F N S rt cd113 P Q 61 L st h = (P 63 L (.int (Int32.ofInt (-1000002)) :: st) h) := rfl
theorem e113_63 : exq sa F N S rt cd113 P Q 63 L st h = (tI st fun v s => s = [] ∧ (rt = some .int ∨ (rt = some .boolean ∧ (v = 0 ∨ v = 1))) ∧ Q (some (.int v)) h) := rfl
theorem e114_0 : exq sa F N S rt cd114 P Q 0 L st h = (ldR L 0 fun v => P 1 L (v :: st) h) := rfl
theorem e114_1 : exq sa F N S rt cd114 P Q 1 L st h = (tR st fun a s => opt (hO h a 6) fun fs => opt (fs[2]?) fun v => P 4 L (v :: s) h) := rfl
theorem e114_4 : exq sa F N S rt cd114 P Q 4 L st h = (ldI L 1 fun v => P 5 L (.int v :: st) h) := rfl
theorem e114_5 : exq sa F N S rt cd114 P Q 5 L st h = (ivV F 17 2 2 st h fun r s h' => P 8 L (pu r s) h') := rfl
theorem e114_8 : exq sa F N S rt cd114 P Q 8 L st h = (tI st fun a s => br (a = 0) (P 32 L s h) (P 11 L s h)) := rfl
theorem e114_11 : exq sa F N S rt cd114 P Q 11 L st h = (ldR L 0 fun v => P 12 L (v :: st) h) := rfl
theorem e114_12 : exq sa F N S rt cd114 P Q 12 L st h = (tR st fun a s => opt (hO h a 6) fun fs => opt (fs[2]?) fun v => P 15 L (v :: s) h) := rfl
theorem e114_15 : exq sa F N S rt cd114 P Q 15 L st h = (ldI L 2 fun v => P 16 L (.int v :: st) h) := rfl
theorem e114_16 : exq sa F N S rt cd114 P Q 16 L st h = (ivV F 18 2 2 st h fun r s h' => P 19 L (pu r s) h') := rfl
theorem e114_19 : exq sa F N S rt cd114 P Q 19 L st h = (tI st fun a s => br (a = 0) (P 32 L s h) (P 22 L s h)) := rfl
theorem e114_22 : exq sa F N S rt cd114 P Q 22 L st h = (ldI L 3 fun v => P 23 L (.int v :: st) h) := rfl
theorem e114_23 : exq sa F N S rt cd114 P Q 23 L st h = (P 24 L (.int (Int32.ofInt (1)) :: st) h) := rfl
theorem e114_24 : exq sa F N S rt cd114 P Q 24 L st h = (P 26 L (.int (Int32.ofInt (30)) :: st) h) := rfl
theorem e114_26 : exq sa F N S rt cd114 P Q 26 L st h = (ivS F 131 3 st h fun r s h' => P 29 L (pu r s) h') := rfl
theorem e114_29 : exq sa F N S rt cd114 P Q 29 L st h = (tI st fun a s => br (a = 0) (P 32 L s h) (P 35 L s h)) := rfl
theorem e114_32 : exq sa F N S rt cd114 P Q 32 L st h = (P 34 L (.int (Int32.ofInt (-1000001)) :: st) h) := rfl
theorem e114_34 : exq sa F N S rt cd114 P Q 34 L st h = (tI st fun v s => s = [] ∧ (rt = some .int ∨ (rt = some .boolean ∧ (v = 0 ∨ v = 1))) ∧ Q (some (.int v)) h) := rfl
theorem e114_35 : exq sa F N S rt cd114 P Q 35 L st h = (ldR L 0 fun v => P 36 L (v :: st) h) := rfl
theorem e114_36 : exq sa F N S rt cd114 P Q 36 L st h = (tR st fun a s => opt (hO h a 6) fun fs => opt (fs[2]?) fun v => P 39 L (v :: s) h) := rfl
theorem e114_39 : exq sa F N S rt cd114 P Q 39 L st h = (tR st fun a s => opt (hO h a 2) fun fs => opt (fs[7]?) fun v => P 42 L (v :: s) h) := rfl
theorem e114_42 : exq sa F N S rt cd114 P Q 42 L st h = (ldI L 1 fun v => P 43 L (.int v :: st) h) := rfl
theorem e114_43 : exq sa F N S rt cd114 P Q 43 L st h = (ald sa st h fun v s => P 44 L (.int v :: s) h) := rfl
theorem e114_44 : exq sa F N S rt cd114 P Q 44 L st h = (P 45 L (.int (Int32.ofInt (2)) :: st) h) := rfl
theorem e114_45 : exq sa F N S rt cd114 P Q 45 L st h = (tI st fun b s => tI s fun a s => br (a = b) (P 48 L s h) (P 53 L s h)) := rfl
theorem e114_48 : exq sa F N S rt cd114 P Q 48 L st h = (P 50 L (.int (Int32.ofInt (-1000002)) :: st) h) := rfl
theorem e114_50 : exq sa F N S rt cd114 P Q 50 L st h = (P 67 L st h) := rfl
theorem e114_53 : exq sa F N S rt cd114 P Q 53 L st h = (ldR L 0 fun v => P 54 L (v :: st) h) := rfl
theorem e114_54 : exq sa F N S rt cd114 P Q 54 L st h = (tR st fun a s => opt (hO h a 6) fun fs => opt (fs[4]?) fun v => P 57 L (v :: s) h) := rfl
theorem e114_57 : exq sa F N S rt cd114 P Q 57 L st h = (ldR L 0 fun v => P 58 L (v :: st) h) := rfl
theorem e114_58 : exq sa F N S rt cd114 P Q 58 L st h = (tR st fun a s => opt (hO h a 6) fun fs => opt (fs[2]?) fun v => P 61 L (v :: s) h) := rfl
theorem e114_61 : exq sa F N S rt cd114 P Q 61 L st h = (ldI L 1 fun v => P 62 L (.int v :: st) h) := rfl
theorem e114_62 : exq sa F N S rt cd114 P Q 62 L st h = (ldI L 2 fun v => P 63 L (.int v :: st) h) := rfl
theorem e114_63 : exq sa F N S rt cd114 P Q 63 L st h = (ldI L 3 fun v => P 64 L (.int v :: st) h) := rfl
theorem e114_64 : exq sa F N S rt cd114 P Q 64 L st h = (ivV F 48 5 3 st h fun r s h' => P 67 L (pu r s) h') := rfl
theorem e114_67 : exq sa F N S rt cd114 P Q 67 L st h = (tI st fun v s => s = [] ∧ (rt = some .int ∨ (rt = some .boolean ∧ (v = 0 ∨ v = 1))) ∧ Q (some (.int v)) h) := rfl
theorem e115_0 : exq sa F N S rt cd115 P Q 0 L st h = (ldR L 0 fun v => P 1 L (v :: st) h) := rfl
theorem e115_1 : exq sa F N S rt cd115 P Q 1 L st h = (tR st fun a s => opt (hO h a 6) fun fs => opt (fs[2]?) fun v => P 4 L (v :: s) h) := rfl
theorem e115_4 : exq sa F N S rt cd115 P Q 4 L st h = (ivV F 16 1 2 st h fun r s h' => P 7 L (pu r s) h') := rfl
theorem e115_7 : exq sa F N S rt cd115 P Q 7 L st h = (tI st fun a s => br (a = 0) (P 10 L s h) (P 13 L s h)) := rfl
theorem e115_10 : exq sa F N S rt cd115 P Q 10 L st h = (P 12 L (.int (Int32.ofInt (-1000002)) :: st) h) := rfl
theorem e115_12 : exq sa F N S rt cd115 P Q 12 L st h = (tI st fun v s => s = [] ∧ (rt = some .int ∨ (rt = some .boolean ∧ (v = 0 ∨ v = 1))) ∧ Q (some (.int v)) h) := rfl
theorem e115_13 : exq sa F N S rt cd115 P Q 13 L st h = (ldI L 1 fun v => P 14 L (.int v :: st) h) := rfl
theorem e115_14 : exq sa F N S rt cd115 P Q 14 L st h = (P 15 L (.int (Int32.ofInt (0)) :: st) h) := rfl
theorem e115_15 : exq sa F N S rt cd115 P Q 15 L st h = (P 16 L (.int (Int32.ofInt (4)) :: st) h) := rfl
theorem e115_16 : exq sa F N S rt cd115 P Q 16 L st h = (ivS F 131 3 st h fun r s h' => P 19 L (pu r s) h') := rfl
theorem e115_19 : exq sa F N S rt cd115 P Q 19 L st h = (tI st fun a s => br (a = 0) (P 48 L s h) (P 22 L s h)) := rfl
theorem e115_22 : exq sa F N S rt cd115 P Q 22 L st h = (ldI L 2 fun v => P 23 L (.int v :: st) h) := rfl
theorem e115_23 : exq sa F N S rt cd115 P Q 23 L st h = (P 24 L (.int (Int32.ofInt (1)) :: st) h) := rfl
theorem e115_24 : exq sa F N S rt cd115 P Q 24 L st h = (P 26 L (.int (Int32.ofInt (20)) :: st) h) := rfl
theorem e115_26 : exq sa F N S rt cd115 P Q 26 L st h = (ivS F 131 3 st h fun r s h' => P 29 L (pu r s) h') := rfl
theorem e115_29 : exq sa F N S rt cd115 P Q 29 L st h = (tI st fun a s => br (a = 0) (P 48 L s h) (P 32 L s h)) := rfl
theorem e115_32 : exq sa F N S rt cd115 P Q 32 L st h = (ldR L 0 fun v => P 33 L (v :: st) h) := rfl
theorem e115_33 : exq sa F N S rt cd115 P Q 33 L st h = (tR st fun a s => opt (hO h a 6) fun fs => opt (fs[4]?) fun v => P 36 L (v :: s) h) := rfl
theorem e115_36 : exq sa F N S rt cd115 P Q 36 L st h = (ldR L 0 fun v => P 37 L (v :: st) h) := rfl
theorem e115_37 : exq sa F N S rt cd115 P Q 37 L st h = (tR st fun a s => opt (hO h a 6) fun fs => opt (fs[2]?) fun v => P 40 L (v :: s) h) := rfl
theorem e115_40 : exq sa F N S rt cd115 P Q 40 L st h = (ldI L 1 fun v => P 41 L (.int v :: st) h) := rfl
theorem e115_41 : exq sa F N S rt cd115 P Q 41 L st h = (ldI L 2 fun v => P 42 L (.int v :: st) h) := rfl
theorem e115_42 : exq sa F N S rt cd115 P Q 42 L st h = (ivV F 49 4 3 st h fun r s h' => P 45 L (pu r s) h') := rfl
theorem e115_45 : exq sa F N S rt cd115 P Q 45 L st h = (P 50 L st h) := rfl
theorem e115_48 : exq sa F N S rt cd115 P Q 48 L st h = (P 50 L (.int (Int32.ofInt (-1000001)) :: st) h) := rfl
theorem e115_50 : exq sa F N S rt cd115 P Q 50 L st h = (tI st fun v s => s = [] ∧ (rt = some .int ∨ (rt = some .boolean ∧ (v = 0 ∨ v = 1))) ∧ Q (some (.int v)) h) := rfl
theorem e116_0 : exq sa F N S rt cd116 P Q 0 L st h = (ldR L 0 fun v => P 1 L (v :: st) h) := rfl
theorem e116_1 : exq sa F N S rt cd116 P Q 1 L st h = (tR st fun a s => opt (hO h a 6) fun fs => opt (fs[2]?) fun v => P 4 L (v :: s) h) := rfl
theorem e116_4 : exq sa F N S rt cd116 P Q 4 L st h = (ldI L 1 fun v => P 5 L (.int v :: st) h) := rfl
theorem e116_5 : exq sa F N S rt cd116 P Q 5 L st h = (ivV F 19 2 2 st h fun r s h' => P 8 L (pu r s) h') := rfl
theorem e116_8 : exq sa F N S rt cd116 P Q 8 L st h = (tI st fun a s => br (a = 0) (P 18 L s h) (P 11 L s h)) := rfl
theorem e116_11 : exq sa F N S rt cd116 P Q 11 L st h = (ldI L 2 fun v => P 12 L (.int v :: st) h) := rfl
theorem e116_12 : exq sa F N S rt cd116 P Q 12 L st h = (ivS F 132 1 st h fun r s h' => P 15 L (pu r s) h') := rfl
theorem e116_15 : exq sa F N S rt cd116 P Q 15 L st h = (tI st fun a s => br (a = 0) (P 18 L s h) (P 21 L s h)) := rfl
theorem e116_18 : exq sa F N S rt cd116 P Q 18 L st h = (P 20 L (.int (Int32.ofInt (-1000001)) :: st) h) := rfl
theorem e116_20 : exq sa F N S rt cd116 P Q 20 L st h = (tI st fun v s => s = [] ∧ (rt = some .int ∨ (rt = some .boolean ∧ (v = 0 ∨ v = 1))) ∧ Q (some (.int v)) h) := rfl
theorem e116_21 : exq sa F N S rt cd116 P Q 21 L st h = (ldR L 0 fun v => P 22 L (v :: st) h) := rfl
theorem e116_22 : exq sa F N S rt cd116 P Q 22 L st h = (tR st fun a s => opt (hO h a 6) fun fs => opt (fs[2]?) fun v => P 25 L (v :: s) h) := rfl
theorem e116_25 : exq sa F N S rt cd116 P Q 25 L st h = (ldI L 1 fun v => P 26 L (.int v :: st) h) := rfl
theorem e116_26 : exq sa F N S rt cd116 P Q 26 L st h = (ivV F 35 2 2 st h fun r s h' => P 29 L (pu r s) h') := rfl
theorem e116_29 : exq sa F N S rt cd116 P Q 29 L st h = (tI st fun v s => lvS L 3 (.int v) fun L' => P 30 L' s h) := rfl
theorem e116_30 : exq sa F N S rt cd116 P Q 30 L st h = (ldI L 2 fun v => P 31 L (.int v :: st) h) := rfl
theorem e116_31 : exq sa F N S rt cd116 P Q 31 L st h = (tI st fun a s => br (a = 0) (P 40 L s h) (P 34 L s h)) := rfl
theorem e116_34 : exq sa F N S rt cd116 P Q 34 L st h = (ldI L 3 fun v => P 35 L (.int v :: st) h) := rfl
theorem e116_35 : exq sa F N S rt cd116 P Q 35 L st h = (P 37 L (.int (Int32.ofInt (-1000000)) :: st) h) := rfl
theorem e116_37 : exq sa F N S rt cd116 P Q 37 L st h = (tI st fun b s => tI s fun a s => br (a = b) (P 40 L s h) (P 44 L s h)) := rfl
theorem e116_40 : exq sa F N S rt cd116 P Q 40 L st h = (ldI L 3 fun v => P 41 L (.int v :: st) h) := rfl
theorem e116_41 : exq sa F N S rt cd116 P Q 41 L st h = (P 53 L st h) := rfl
theorem e116_44 : exq sa F N S rt cd116 P Q 44 L st h = (ldR L 0 fun v => P 45 L (v :: st) h) := rfl
theorem e116_45 : exq sa F N S rt cd116 P Q 45 L st h = (tR st fun a s => opt (hO h a 6) fun fs => opt (fs[2]?) fun v => P 48 L (v :: s) h) := rfl
theorem e116_48 : exq sa F N S rt cd116 P Q 48 L st h = (ldI L 3 fun v => P 49 L (.int v :: st) h) := rfl
theorem e116_49 : exq sa F N S rt cd116 P Q 49 L st h = (ldI L 1 fun v => P 50 L (.int v :: st) h) := rfl
theorem e116_50 : exq sa F N S rt cd116 P Q 50 L st h = (ivV F 34 3 2 st h fun r s h' => P 53 L (pu r s) h') := rfl
theorem e116_53 : exq sa F N S rt cd116 P Q 53 L st h = (tI st fun v s => s = [] ∧ (rt = some .int ∨ (rt = some .boolean ∧ (v = 0 ∨ v = 1))) ∧ Q (some (.int v)) h) := rfl
theorem e117_0 : exq sa F N S rt cd117 P Q 0 L st h = (ldR L 0 fun v => P 1 L (v :: st) h) := rfl
theorem e117_1 : exq sa F N S rt cd117 P Q 1 L st h = (tR st fun a s => opt (hO h a 6) fun fs => opt (fs[2]?) fun v => P 4 L (v :: s) h) := rfl
theorem e117_4 : exq sa F N S rt cd117 P Q 4 L st h = (ldI L 1 fun v => P 5 L (.int v :: st) h) := rfl
theorem e117_5 : exq sa F N S rt cd117 P Q 5 L st h = (ivV F 17 2 2 st h fun r s h' => P 8 L (pu r s) h') := rfl
theorem e117_8 : exq sa F N S rt cd117 P Q 8 L st h = (tI st fun a s => br (a = 0) (P 39 L s h) (P 11 L s h)) := rfl
theorem e117_11 : exq sa F N S rt cd117 P Q 11 L st h = (ldI L 2 fun v => P 12 L (.int v :: st) h) := rfl
theorem e117_12 : exq sa F N S rt cd117 P Q 12 L st h = (ivS F 132 1 st h fun r s h' => P 15 L (pu r s) h') := rfl
theorem e117_15 : exq sa F N S rt cd117 P Q 15 L st h = (tI st fun a s => br (a = 0) (P 39 L s h) (P 18 L s h)) := rfl
theorem e117_18 : exq sa F N S rt cd117 P Q 18 L st h = (ldR L 0 fun v => P 19 L (v :: st) h) := rfl
theorem e117_19 : exq sa F N S rt cd117 P Q 19 L st h = (tR st fun a s => opt (hO h a 6) fun fs => opt (fs[2]?) fun v => P 22 L (v :: s) h) := rfl
theorem e117_22 : exq sa F N S rt cd117 P Q 22 L st h = (ldI L 3 fun v => P 23 L (.int v :: st) h) := rfl
theorem e117_23 : exq sa F N S rt cd117 P Q 23 L st h = (ivV F 17 2 2 st h fun r s h' => P 26 L (pu r s) h') := rfl
theorem e117_26 : exq sa F N S rt cd117 P Q 26 L st h = (tI st fun a s => br (a = 0) (P 39 L s h) (P 29 L s h)) := rfl
theorem e117_29 : exq sa F N S rt cd117 P Q 29 L st h = (ldI L 4 fun v => P 31 L (.int v :: st) h) := rfl
theorem e117_31 : exq sa F N S rt cd117 P Q 31 L st h = (ldI L 6 fun v => P 33 L (.int v :: st) h) := rfl
theorem e117_33 : exq sa F N S rt cd117 P Q 33 L st h = (ivS F 133 2 st h fun r s h' => P 36 L (pu r s) h') := rfl
theorem e117_36 : exq sa F N S rt cd117 P Q 36 L st h = (tI st fun a s => br (a = 0) (P 39 L s h) (P 42 L s h)) := rfl
theorem e117_39 : exq sa F N S rt cd117 P Q 39 L st h = (P 41 L (.int (Int32.ofInt (-1000001)) :: st) h) := rfl
theorem e117_41 : exq sa F N S rt cd117 P Q 41 L st h = (tI st fun v s => s = [] ∧ (rt = some .int ∨ (rt = some .boolean ∧ (v = 0 ∨ v = 1))) ∧ Q (some (.int v)) h) := rfl
theorem e117_42 : exq sa F N S rt cd117 P Q 42 L st h = (ldR L 0 fun v => P 43 L (v :: st) h) := rfl
theorem e117_43 : exq sa F N S rt cd117 P Q 43 L st h = (tR st fun a s => opt (hO h a 6) fun fs => opt (fs[2]?) fun v => P 46 L (v :: s) h) := rfl
theorem e117_46 : exq sa F N S rt cd117 P Q 46 L st h = (tR st fun a s => opt (hO h a 2) fun fs => opt (fs[7]?) fun v => P 49 L (v :: s) h) := rfl
theorem e117_49 : exq sa F N S rt cd117 P Q 49 L st h = (ldI L 1 fun v => P 50 L (.int v :: st) h) := rfl
theorem e117_50 : exq sa F N S rt cd117 P Q 50 L st h = (ald sa st h fun v s => P 51 L (.int v :: s) h) := rfl
theorem e117_51 : exq sa F N S rt cd117 P Q 51 L st h = (P 52 L (.int (Int32.ofInt (2)) :: st) h) := rfl
theorem e117_52 : exq sa F N S rt cd117 P Q 52 L st h = (tI st fun b s => tI s fun a s => br (a = b) (P 55 L s h) (P 58 L s h)) := rfl
theorem e117_55 : exq sa F N S rt cd117 P Q 55 L st h = (P 57 L (.int (Int32.ofInt (-1000002)) :: st) h) := rfl
theorem e117_57 : exq sa F N S rt cd117 P Q 57 L st h = (tI st fun v s => s = [] ∧ (rt = some .int ∨ (rt = some .boolean ∧ (v = 0 ∨ v = 1))) ∧ Q (some (.int v)) h) := rfl
theorem e117_58 : exq sa F N S rt cd117 P Q 58 L st h = (ldR L 0 fun v => P 59 L (v :: st) h) := rfl
theorem e117_59 : exq sa F N S rt cd117 P Q 59 L st h = (tR st fun a s => opt (hO h a 6) fun fs => opt (fs[0]?) fun v => P 62 L (v :: s) h) := rfl
theorem e117_62 : exq sa F N S rt cd117 P Q 62 L st h = (ldI L 4 fun v => P 64 L (.int v :: st) h) := rfl
theorem e117_64 : exq sa F N S rt cd117 P Q 64 L st h = (ldI L 5 fun v => P 66 L (.int v :: st) h) := rfl
theorem e117_66 : exq sa F N S rt cd117 P Q 66 L st h = (ldI L 6 fun v => P 68 L (.int v :: st) h) := rfl
theorem e117_68 : exq sa F N S rt cd117 P Q 68 L st h = (ivV F 86 4 5 st h fun r s h' => P 71 L (pu r s) h') := rfl
theorem e117_71 : exq sa F N S rt cd117 P Q 71 L st h = (tI st fun v s => lvS L 7 (.int v) fun L' => P 73 L' s h) := rfl
theorem e117_73 : exq sa F N S rt cd117 P Q 73 L st h = (ldI L 7 fun v => P 75 L (.int v :: st) h) := rfl
theorem e117_75 : exq sa F N S rt cd117 P Q 75 L st h = (tI st fun a s => br (a = 0) (P 85 L s h) (P 78 L s h)) := rfl
theorem e117_78 : exq sa F N S rt cd117 P Q 78 L st h = (ldR L 0 fun v => P 79 L (v :: st) h) := rfl
theorem e117_79 : exq sa F N S rt cd117 P Q 79 L st h = (ldI L 7 fun v => P 81 L (.int v :: st) h) := rfl
theorem e117_81 : exq sa F N S rt cd117 P Q 81 L st h = (ivV F 129 2 6 st h fun r s h' => P 84 L (pu r s) h') := rfl
theorem e117_84 : exq sa F N S rt cd117 P Q 84 L st h = (tI st fun v s => s = [] ∧ (rt = some .int ∨ (rt = some .boolean ∧ (v = 0 ∨ v = 1))) ∧ Q (some (.int v)) h) := rfl
theorem e117_85 : exq sa F N S rt cd117 P Q 85 L st h = (ldR L 0 fun v => P 86 L (v :: st) h) := rfl
theorem e117_86 : exq sa F N S rt cd117 P Q 86 L st h = (tR st fun a s => opt (hO h a 6) fun fs => opt (fs[4]?) fun v => P 89 L (v :: s) h) := rfl
theorem e117_89 : exq sa F N S rt cd117 P Q 89 L st h = (ldI L 3 fun v => P 90 L (.int v :: st) h) := rfl
theorem e117_90 : exq sa F N S rt cd117 P Q 90 L st h = (ldR L 0 fun v => P 91 L (v :: st) h) := rfl
theorem e117_91 : exq sa F N S rt cd117 P Q 91 L st h = (tR st fun a s => opt (hO h a 6) fun fs => opt (fs[0]?) fun v => P 94 L (v :: s) h) := rfl
theorem e117_94 : exq sa F N S rt cd117 P Q 94 L st h = (tR st fun a s => opt (hO h a 5) fun fs => opt (fs[0]?) fun v => P 97 L (v :: s) h) := rfl
theorem e117_97 : exq sa F N S rt cd117 P Q 97 L st h = (ldI L 4 fun v => P 99 L (.int v :: st) h) := rfl
theorem e117_99 : exq sa F N S rt cd117 P Q 99 L st h = (tI st fun i s => tR s fun a s => opt (hR h a) fun q => ix i q.2.1 fun k => opt (q.2.2 k) fun v => P 100 L (.ref v :: s) h) := rfl
theorem e117_100 : exq sa F N S rt cd117 P Q 100 L st h = (ldI L 5 fun v => P 102 L (.int v :: st) h) := rfl
theorem e117_102 : exq sa F N S rt cd117 P Q 102 L st h = (ldI L 6 fun v => P 104 L (.int v :: st) h) := rfl
theorem e117_104 : exq sa F N S rt cd117 P Q 104 L st h = (ivV F 51 5 3 st h fun r s h' => P 107 L (pu r s) h') := rfl
theorem e117_107 : exq sa F N S rt cd117 P Q 107 L st h = (ldR L 0 fun v => P 108 L (v :: st) h) := rfl
theorem e117_108 : exq sa F N S rt cd117 P Q 108 L st h = (ldI L 2 fun v => P 109 L (.int v :: st) h) := rfl
theorem e117_109 : exq sa F N S rt cd117 P Q 109 L st h = (tI st fun a s => br (a = 0) (P 112 L s h) (P 127 L s h)) := rfl
theorem e117_112 : exq sa F N S rt cd117 P Q 112 L st h = (ldR L 0 fun v => P 113 L (v :: st) h) := rfl
theorem e117_113 : exq sa F N S rt cd117 P Q 113 L st h = (tR st fun a s => opt (hO h a 6) fun fs => opt (fs[4]?) fun v => P 116 L (v :: s) h) := rfl
theorem e117_116 : exq sa F N S rt cd117 P Q 116 L st h = (ldR L 0 fun v => P 117 L (v :: st) h) := rfl
theorem e117_117 : exq sa F N S rt cd117 P Q 117 L st h = (tR st fun a s => opt (hO h a 6) fun fs => opt (fs[2]?) fun v => P 120 L (v :: s) h) := rfl
theorem e117_120 : exq sa F N S rt cd117 P Q 120 L st h = (ldI L 1 fun v => P 121 L (.int v :: st) h) := rfl
theorem e117_121 : exq sa F N S rt cd117 P Q 121 L st h = (ivV F 53 3 3 st h fun r s h' => P 124 L (pu r s) h') := rfl
theorem e117_124 : exq sa F N S rt cd117 P Q 124 L st h = (P 139 L st h) := rfl
theorem e117_127 : exq sa F N S rt cd117 P Q 127 L st h = (ldR L 0 fun v => P 128 L (v :: st) h) := rfl
theorem e117_128 : exq sa F N S rt cd117 P Q 128 L st h = (tR st fun a s => opt (hO h a 6) fun fs => opt (fs[4]?) fun v => P 131 L (v :: s) h) := rfl
theorem e117_131 : exq sa F N S rt cd117 P Q 131 L st h = (ldR L 0 fun v => P 132 L (v :: st) h) := rfl
theorem e117_132 : exq sa F N S rt cd117 P Q 132 L st h = (tR st fun a s => opt (hO h a 6) fun fs => opt (fs[2]?) fun v => P 135 L (v :: s) h) := rfl
theorem e117_135 : exq sa F N S rt cd117 P Q 135 L st h = (ldI L 1 fun v => P 136 L (.int v :: st) h) := rfl
theorem e117_136 : exq sa F N S rt cd117 P Q 136 L st h = (ivV F 54 3 3 st h fun r s h' => P 139 L (pu r s) h') := rfl
theorem e117_139 : exq sa F N S rt cd117 P Q 139 L st h = (ivV F 130 2 6 st h fun r s h' => P 142 L (pu r s) h') := rfl
theorem e117_142 : exq sa F N S rt cd117 P Q 142 L st h = (tI st fun v s => s = [] ∧ (rt = some .int ∨ (rt = some .boolean ∧ (v = 0 ∨ v = 1))) ∧ Q (some (.int v)) h) := rfl
theorem e118_0 : exq sa F N S rt cd118 P Q 0 L st h = (ldR L 0 fun v => P 1 L (v :: st) h) := rfl
theorem e118_1 : exq sa F N S rt cd118 P Q 1 L st h = (tR st fun a s => opt (hO h a 6) fun fs => opt (fs[2]?) fun v => P 4 L (v :: s) h) := rfl
theorem e118_4 : exq sa F N S rt cd118 P Q 4 L st h = (ldI L 1 fun v => P 5 L (.int v :: st) h) := rfl
theorem e118_5 : exq sa F N S rt cd118 P Q 5 L st h = (ivV F 18 2 2 st h fun r s h' => P 8 L (pu r s) h') := rfl
theorem e118_8 : exq sa F N S rt cd118 P Q 8 L st h = (tI st fun a s => br (a = 0) (P 39 L s h) (P 11 L s h)) := rfl
theorem e118_11 : exq sa F N S rt cd118 P Q 11 L st h = (ldI L 2 fun v => P 12 L (.int v :: st) h) := rfl
theorem e118_12 : exq sa F N S rt cd118 P Q 12 L st h = (ivS F 132 1 st h fun r s h' => P 15 L (pu r s) h') := rfl
theorem e118_15 : exq sa F N S rt cd118 P Q 15 L st h = (tI st fun a s => br (a = 0) (P 39 L s h) (P 18 L s h)) := rfl
theorem e118_18 : exq sa F N S rt cd118 P Q 18 L st h = (ldR L 0 fun v => P 19 L (v :: st) h) := rfl
theorem e118_19 : exq sa F N S rt cd118 P Q 19 L st h = (tR st fun a s => opt (hO h a 6) fun fs => opt (fs[2]?) fun v => P 22 L (v :: s) h) := rfl
theorem e118_22 : exq sa F N S rt cd118 P Q 22 L st h = (ldI L 3 fun v => P 23 L (.int v :: st) h) := rfl
theorem e118_23 : exq sa F N S rt cd118 P Q 23 L st h = (ivV F 17 2 2 st h fun r s h' => P 26 L (pu r s) h') := rfl
theorem e118_26 : exq sa F N S rt cd118 P Q 26 L st h = (tI st fun a s => br (a = 0) (P 39 L s h) (P 29 L s h)) := rfl
theorem e118_29 : exq sa F N S rt cd118 P Q 29 L st h = (ldI L 4 fun v => P 31 L (.int v :: st) h) := rfl
theorem e118_31 : exq sa F N S rt cd118 P Q 31 L st h = (ldI L 6 fun v => P 33 L (.int v :: st) h) := rfl
theorem e118_33 : exq sa F N S rt cd118 P Q 33 L st h = (ivS F 133 2 st h fun r s h' => P 36 L (pu r s) h') := rfl
theorem e118_36 : exq sa F N S rt cd118 P Q 36 L st h = (tI st fun a s => br (a = 0) (P 39 L s h) (P 42 L s h)) := rfl
theorem e118_39 : exq sa F N S rt cd118 P Q 39 L st h = (P 41 L (.int (Int32.ofInt (-1000001)) :: st) h) := rfl
theorem e118_41 : exq sa F N S rt cd118 P Q 41 L st h = (tI st fun v s => s = [] ∧ (rt = some .int ∨ (rt = some .boolean ∧ (v = 0 ∨ v = 1))) ∧ Q (some (.int v)) h) := rfl
theorem e118_42 : exq sa F N S rt cd118 P Q 42 L st h = (ldR L 0 fun v => P 43 L (v :: st) h) := rfl
theorem e118_43 : exq sa F N S rt cd118 P Q 43 L st h = (tR st fun a s => opt (hO h a 6) fun fs => opt (fs[2]?) fun v => P 46 L (v :: s) h) := rfl
theorem e118_46 : exq sa F N S rt cd118 P Q 46 L st h = (ldI L 1 fun v => P 47 L (.int v :: st) h) := rfl
theorem e118_47 : exq sa F N S rt cd118 P Q 47 L st h = (ivV F 20 2 2 st h fun r s h' => P 50 L (pu r s) h') := rfl
theorem e118_50 : exq sa F N S rt cd118 P Q 50 L st h = (tI st fun a s => br (a = 0) (P 56 L s h) (P 53 L s h)) := rfl
theorem e118_53 : exq sa F N S rt cd118 P Q 53 L st h = (P 55 L (.int (Int32.ofInt (-1000002)) :: st) h) := rfl
theorem e118_55 : exq sa F N S rt cd118 P Q 55 L st h = (tI st fun v s => s = [] ∧ (rt = some .int ∨ (rt = some .boolean ∧ (v = 0 ∨ v = 1))) ∧ Q (some (.int v)) h) := rfl
theorem e118_56 : exq sa F N S rt cd118 P Q 56 L st h = (ldR L 0 fun v => P 57 L (v :: st) h) := rfl
theorem e118_57 : exq sa F N S rt cd118 P Q 57 L st h = (tR st fun a s => opt (hO h a 6) fun fs => opt (fs[0]?) fun v => P 60 L (v :: s) h) := rfl
theorem e118_60 : exq sa F N S rt cd118 P Q 60 L st h = (ldI L 4 fun v => P 62 L (.int v :: st) h) := rfl
theorem e118_62 : exq sa F N S rt cd118 P Q 62 L st h = (ldI L 5 fun v => P 64 L (.int v :: st) h) := rfl
theorem e118_64 : exq sa F N S rt cd118 P Q 64 L st h = (ldI L 6 fun v => P 66 L (.int v :: st) h) := rfl
theorem e118_66 : exq sa F N S rt cd118 P Q 66 L st h = (ivV F 86 4 5 st h fun r s h' => P 69 L (pu r s) h') := rfl
theorem e118_69 : exq sa F N S rt cd118 P Q 69 L st h = (tI st fun v s => lvS L 7 (.int v) fun L' => P 71 L' s h) := rfl
theorem e118_71 : exq sa F N S rt cd118 P Q 71 L st h = (ldI L 7 fun v => P 73 L (.int v :: st) h) := rfl
theorem e118_73 : exq sa F N S rt cd118 P Q 73 L st h = (tI st fun a s => br (a = 0) (P 83 L s h) (P 76 L s h)) := rfl
theorem e118_76 : exq sa F N S rt cd118 P Q 76 L st h = (ldR L 0 fun v => P 77 L (v :: st) h) := rfl
theorem e118_77 : exq sa F N S rt cd118 P Q 77 L st h = (ldI L 7 fun v => P 79 L (.int v :: st) h) := rfl
theorem e118_79 : exq sa F N S rt cd118 P Q 79 L st h = (ivV F 129 2 6 st h fun r s h' => P 82 L (pu r s) h') := rfl
theorem e118_82 : exq sa F N S rt cd118 P Q 82 L st h = (tI st fun v s => s = [] ∧ (rt = some .int ∨ (rt = some .boolean ∧ (v = 0 ∨ v = 1))) ∧ Q (some (.int v)) h) := rfl
theorem e118_83 : exq sa F N S rt cd118 P Q 83 L st h = (ldR L 0 fun v => P 84 L (v :: st) h) := rfl
theorem e118_84 : exq sa F N S rt cd118 P Q 84 L st h = (tR st fun a s => opt (hO h a 6) fun fs => opt (fs[4]?) fun v => P 87 L (v :: s) h) := rfl
theorem e118_87 : exq sa F N S rt cd118 P Q 87 L st h = (ldI L 3 fun v => P 88 L (.int v :: st) h) := rfl
theorem e118_88 : exq sa F N S rt cd118 P Q 88 L st h = (ldR L 0 fun v => P 89 L (v :: st) h) := rfl
theorem e118_89 : exq sa F N S rt cd118 P Q 89 L st h = (tR st fun a s => opt (hO h a 6) fun fs => opt (fs[0]?) fun v => P 92 L (v :: s) h) := rfl
theorem e118_92 : exq sa F N S rt cd118 P Q 92 L st h = (tR st fun a s => opt (hO h a 5) fun fs => opt (fs[0]?) fun v => P 95 L (v :: s) h) := rfl
theorem e118_95 : exq sa F N S rt cd118 P Q 95 L st h = (ldI L 4 fun v => P 97 L (.int v :: st) h) := rfl
theorem e118_97 : exq sa F N S rt cd118 P Q 97 L st h = (tI st fun i s => tR s fun a s => opt (hR h a) fun q => ix i q.2.1 fun k => opt (q.2.2 k) fun v => P 98 L (.ref v :: s) h) := rfl
theorem e118_98 : exq sa F N S rt cd118 P Q 98 L st h = (ldI L 5 fun v => P 100 L (.int v :: st) h) := rfl
theorem e118_100 : exq sa F N S rt cd118 P Q 100 L st h = (ldI L 6 fun v => P 102 L (.int v :: st) h) := rfl
theorem e118_102 : exq sa F N S rt cd118 P Q 102 L st h = (ivV F 51 5 3 st h fun r s h' => P 105 L (pu r s) h') := rfl
theorem e118_105 : exq sa F N S rt cd118 P Q 105 L st h = (ldR L 0 fun v => P 106 L (v :: st) h) := rfl
theorem e118_106 : exq sa F N S rt cd118 P Q 106 L st h = (ldI L 2 fun v => P 107 L (.int v :: st) h) := rfl
theorem e118_107 : exq sa F N S rt cd118 P Q 107 L st h = (tI st fun a s => br (a = 0) (P 110 L s h) (P 125 L s h)) := rfl
theorem e118_110 : exq sa F N S rt cd118 P Q 110 L st h = (ldR L 0 fun v => P 111 L (v :: st) h) := rfl
theorem e118_111 : exq sa F N S rt cd118 P Q 111 L st h = (tR st fun a s => opt (hO h a 6) fun fs => opt (fs[4]?) fun v => P 114 L (v :: s) h) := rfl
theorem e118_114 : exq sa F N S rt cd118 P Q 114 L st h = (ldR L 0 fun v => P 115 L (v :: st) h) := rfl
theorem e118_115 : exq sa F N S rt cd118 P Q 115 L st h = (tR st fun a s => opt (hO h a 6) fun fs => opt (fs[2]?) fun v => P 118 L (v :: s) h) := rfl
theorem e118_118 : exq sa F N S rt cd118 P Q 118 L st h = (ldI L 1 fun v => P 119 L (.int v :: st) h) := rfl
theorem e118_119 : exq sa F N S rt cd118 P Q 119 L st h = (ivV F 55 3 3 st h fun r s h' => P 122 L (pu r s) h') := rfl
theorem e118_122 : exq sa F N S rt cd118 P Q 122 L st h = (P 137 L st h) := rfl
theorem e118_125 : exq sa F N S rt cd118 P Q 125 L st h = (ldR L 0 fun v => P 126 L (v :: st) h) := rfl
theorem e118_126 : exq sa F N S rt cd118 P Q 126 L st h = (tR st fun a s => opt (hO h a 6) fun fs => opt (fs[4]?) fun v => P 129 L (v :: s) h) := rfl
theorem e118_129 : exq sa F N S rt cd118 P Q 129 L st h = (ldR L 0 fun v => P 130 L (v :: st) h) := rfl
theorem e118_130 : exq sa F N S rt cd118 P Q 130 L st h = (tR st fun a s => opt (hO h a 6) fun fs => opt (fs[2]?) fun v => P 133 L (v :: s) h) := rfl
theorem e118_133 : exq sa F N S rt cd118 P Q 133 L st h = (ldI L 1 fun v => P 134 L (.int v :: st) h) := rfl
theorem e118_134 : exq sa F N S rt cd118 P Q 134 L st h = (ivV F 56 3 3 st h fun r s h' => P 137 L (pu r s) h') := rfl
theorem e118_137 : exq sa F N S rt cd118 P Q 137 L st h = (ivV F 130 2 6 st h fun r s h' => P 140 L (pu r s) h') := rfl
theorem e118_140 : exq sa F N S rt cd118 P Q 140 L st h = (tI st fun v s => s = [] ∧ (rt = some .int ∨ (rt = some .boolean ∧ (v = 0 ∨ v = 1))) ∧ Q (some (.int v)) h) := rfl
theorem e119_0 : exq sa F N S rt cd119 P Q 0 L st h = (ldR L 0 fun v => P 1 L (v :: st) h) := rfl
theorem e119_1 : exq sa F N S rt cd119 P Q 1 L st h = (tR st fun a s => opt (hO h a 6) fun fs => opt (fs[2]?) fun v => P 4 L (v :: s) h) := rfl
theorem e119_4 : exq sa F N S rt cd119 P Q 4 L st h = (ldI L 1 fun v => P 5 L (.int v :: st) h) := rfl
theorem e119_5 : exq sa F N S rt cd119 P Q 5 L st h = (ivV F 18 2 2 st h fun r s h' => P 8 L (pu r s) h') := rfl
theorem e119_8 : exq sa F N S rt cd119 P Q 8 L st h = (tI st fun a s => br (a = 0) (P 39 L s h) (P 11 L s h)) := rfl
theorem e119_11 : exq sa F N S rt cd119 P Q 11 L st h = (ldI L 2 fun v => P 12 L (.int v :: st) h) := rfl
theorem e119_12 : exq sa F N S rt cd119 P Q 12 L st h = (P 13 L (.int (Int32.ofInt (0)) :: st) h) := rfl
theorem e119_13 : exq sa F N S rt cd119 P Q 13 L st h = (P 15 L (.int (Int32.ofInt (60)) :: st) h) := rfl
theorem e119_15 : exq sa F N S rt cd119 P Q 15 L st h = (ivS F 131 3 st h fun r s h' => P 18 L (pu r s) h') := rfl
theorem e119_18 : exq sa F N S rt cd119 P Q 18 L st h = (tI st fun a s => br (a = 0) (P 39 L s h) (P 21 L s h)) := rfl
theorem e119_21 : exq sa F N S rt cd119 P Q 21 L st h = (ldI L 3 fun v => P 22 L (.int v :: st) h) := rfl
theorem e119_22 : exq sa F N S rt cd119 P Q 22 L st h = (P 23 L (.int (Int32.ofInt (0)) :: st) h) := rfl
theorem e119_23 : exq sa F N S rt cd119 P Q 23 L st h = (P 25 L (.int (Int32.ofInt (10)) :: st) h) := rfl
theorem e119_25 : exq sa F N S rt cd119 P Q 25 L st h = (ivS F 131 3 st h fun r s h' => P 28 L (pu r s) h') := rfl
theorem e119_28 : exq sa F N S rt cd119 P Q 28 L st h = (tI st fun a s => br (a = 0) (P 39 L s h) (P 31 L s h)) := rfl
theorem e119_31 : exq sa F N S rt cd119 P Q 31 L st h = (ldI L 4 fun v => P 33 L (.int v :: st) h) := rfl
theorem e119_33 : exq sa F N S rt cd119 P Q 33 L st h = (ivS F 132 1 st h fun r s h' => P 36 L (pu r s) h') := rfl
theorem e119_36 : exq sa F N S rt cd119 P Q 36 L st h = (tI st fun a s => br (a = 0) (P 39 L s h) (P 43 L s h)) := rfl
theorem e119_39 : exq sa F N S rt cd119 P Q 39 L st h = (P 42 L (.long (Int64.ofInt (-1000001)) :: st) h) := rfl
theorem e119_42 : exq sa F N S rt cd119 P Q 42 L st h = (tJ st fun v s => s = [] ∧ rt = some .long ∧ Q (some (.long v)) h) := rfl
theorem e119_43 : exq sa F N S rt cd119 P Q 43 L st h = (ldR L 0 fun v => P 44 L (v :: st) h) := rfl
theorem e119_44 : exq sa F N S rt cd119 P Q 44 L st h = (tR st fun a s => opt (hO h a 6) fun fs => opt (fs[4]?) fun v => P 47 L (v :: s) h) := rfl
theorem e119_47 : exq sa F N S rt cd119 P Q 47 L st h = (ldR L 0 fun v => P 48 L (v :: st) h) := rfl
theorem e119_48 : exq sa F N S rt cd119 P Q 48 L st h = (tR st fun a s => opt (hO h a 6) fun fs => opt (fs[2]?) fun v => P 51 L (v :: s) h) := rfl
theorem e119_51 : exq sa F N S rt cd119 P Q 51 L st h = (ldI L 1 fun v => P 52 L (.int v :: st) h) := rfl
theorem e119_52 : exq sa F N S rt cd119 P Q 52 L st h = (ldI L 2 fun v => P 53 L (.int v :: st) h) := rfl
theorem e119_53 : exq sa F N S rt cd119 P Q 53 L st h = (ldI L 3 fun v => P 54 L (.int v :: st) h) := rfl
theorem e119_54 : exq sa F N S rt cd119 P Q 54 L st h = (ldI L 4 fun v => P 56 L (.int v :: st) h) := rfl
theorem e119_56 : exq sa F N S rt cd119 P Q 56 L st h = (ivV F 57 6 3 st h fun r s h' => P 59 L (pu r s) h') := rfl
theorem e119_59 : exq sa F N S rt cd119 P Q 59 L st h = (tJ st fun v s => s = [] ∧ rt = some .long ∧ Q (some (.long v)) h) := rfl
theorem e120_0 : exq sa F N S rt cd120 P Q 0 L st h = (ldR L 0 fun v => P 1 L (v :: st) h) := rfl
theorem e120_1 : exq sa F N S rt cd120 P Q 1 L st h = (tR st fun a s => opt (hO h a 6) fun fs => opt (fs[2]?) fun v => P 4 L (v :: s) h) := rfl
theorem e120_4 : exq sa F N S rt cd120 P Q 4 L st h = (ivV F 16 1 2 st h fun r s h' => P 7 L (pu r s) h') := rfl
theorem e120_7 : exq sa F N S rt cd120 P Q 7 L st h = (tI st fun a s => br (a = 0) (P 10 L s h) (P 13 L s h)) := rfl
theorem e120_10 : exq sa F N S rt cd120 P Q 10 L st h = (P 12 L (.int (Int32.ofInt (-1000002)) :: st) h) := rfl
theorem e120_12 : exq sa F N S rt cd120 P Q 12 L st h = (tI st fun v s => s = [] ∧ (rt = some .int ∨ (rt = some .boolean ∧ (v = 0 ∨ v = 1))) ∧ Q (some (.int v)) h) := rfl
theorem e120_13 : exq sa F N S rt cd120 P Q 13 L st h = (ldI L 1 fun v => P 14 L (.int v :: st) h) := rfl
theorem e120_14 : exq sa F N S rt cd120 P Q 14 L st h = (P 15 L (.int (Int32.ofInt (0)) :: st) h) := rfl
theorem e120_15 : exq sa F N S rt cd120 P Q 15 L st h = (P 17 L (.int (Int32.ofInt (60)) :: st) h) := rfl
theorem e120_17 : exq sa F N S rt cd120 P Q 17 L st h = (ivS F 131 3 st h fun r s h' => P 20 L (pu r s) h') := rfl
theorem e120_20 : exq sa F N S rt cd120 P Q 20 L st h = (tI st fun a s => br (a = 0) (P 41 L s h) (P 23 L s h)) := rfl
theorem e120_23 : exq sa F N S rt cd120 P Q 23 L st h = (ldI L 2 fun v => P 24 L (.int v :: st) h) := rfl
theorem e120_24 : exq sa F N S rt cd120 P Q 24 L st h = (P 25 L (.int (Int32.ofInt (1)) :: st) h) := rfl
theorem e120_25 : exq sa F N S rt cd120 P Q 25 L st h = (P 28 L (.int (Int32.ofInt (999999)) :: st) h) := rfl
theorem e120_28 : exq sa F N S rt cd120 P Q 28 L st h = (ivS F 131 3 st h fun r s h' => P 31 L (pu r s) h') := rfl
theorem e120_31 : exq sa F N S rt cd120 P Q 31 L st h = (tI st fun a s => br (a = 0) (P 41 L s h) (P 34 L s h)) := rfl
theorem e120_34 : exq sa F N S rt cd120 P Q 34 L st h = (ldI L 3 fun v => P 35 L (.int v :: st) h) := rfl
theorem e120_35 : exq sa F N S rt cd120 P Q 35 L st h = (ivS F 132 1 st h fun r s h' => P 38 L (pu r s) h') := rfl
theorem e120_38 : exq sa F N S rt cd120 P Q 38 L st h = (tI st fun a s => br (a = 0) (P 41 L s h) (P 44 L s h)) := rfl
theorem e120_41 : exq sa F N S rt cd120 P Q 41 L st h = (P 43 L (.int (Int32.ofInt (-1000001)) :: st) h) := rfl
theorem e120_43 : exq sa F N S rt cd120 P Q 43 L st h = (tI st fun v s => s = [] ∧ (rt = some .int ∨ (rt = some .boolean ∧ (v = 0 ∨ v = 1))) ∧ Q (some (.int v)) h) := rfl
theorem e120_44 : exq sa F N S rt cd120 P Q 44 L st h = (ldR L 0 fun v => P 45 L (v :: st) h) := rfl
theorem e120_45 : exq sa F N S rt cd120 P Q 45 L st h = (tR st fun a s => opt (hO h a 6) fun fs => opt (fs[4]?) fun v => P 48 L (v :: s) h) := rfl
theorem e120_48 : exq sa F N S rt cd120 P Q 48 L st h = (ldR L 0 fun v => P 49 L (v :: st) h) := rfl
theorem e120_49 : exq sa F N S rt cd120 P Q 49 L st h = (tR st fun a s => opt (hO h a 6) fun fs => opt (fs[2]?) fun v => P 52 L (v :: s) h) := rfl
theorem e120_52 : exq sa F N S rt cd120 P Q 52 L st h = (ldI L 1 fun v => P 53 L (.int v :: st) h) := rfl
theorem e120_53 : exq sa F N S rt cd120 P Q 53 L st h = (ldI L 2 fun v => P 54 L (.int v :: st) h) := rfl
theorem e120_54 : exq sa F N S rt cd120 P Q 54 L st h = (ivV F 61 4 3 st h fun r s h' => P 57 L (pu r s) h') := rfl
theorem e120_57 : exq sa F N S rt cd120 P Q 57 L st h = (tR st fun v s => lvS L 4 (.ref v) fun L' => P 59 L' s h) := rfl
theorem e120_59 : exq sa F N S rt cd120 P Q 59 L st h = (ldI L 3 fun v => P 60 L (.int v :: st) h) := rfl
theorem e120_60 : exq sa F N S rt cd120 P Q 60 L st h = (tI st fun a s => br (a = 0) (P 63 L s h) (P 71 L s h)) := rfl
theorem e120_63 : exq sa F N S rt cd120 P Q 63 L st h = (ldR L 4 fun v => P 65 L (v :: st) h) := rfl
theorem e120_65 : exq sa F N S rt cd120 P Q 65 L st h = (ivV F 21 1 2 st h fun r s h' => P 68 L (pu r s) h') := rfl
theorem e120_68 : exq sa F N S rt cd120 P Q 68 L st h = (P 77 L st h) := rfl
theorem e120_71 : exq sa F N S rt cd120 P Q 71 L st h = (ldR L 4 fun v => P 73 L (v :: st) h) := rfl
theorem e120_73 : exq sa F N S rt cd120 P Q 73 L st h = (P 74 L (.int (Int32.ofInt (2)) :: st) h) := rfl
theorem e120_74 : exq sa F N S rt cd120 P Q 74 L st h = (ivV F 22 2 2 st h fun r s h' => P 77 L (pu r s) h') := rfl
theorem e120_77 : exq sa F N S rt cd120 P Q 77 L st h = (tI st fun v s => s = [] ∧ (rt = some .int ∨ (rt = some .boolean ∧ (v = 0 ∨ v = 1))) ∧ Q (some (.int v)) h) := rfl
theorem e121_0 : exq sa F N S rt cd121 P Q 0 L st h = (ldI L 1 fun v => P 1 L (.int v :: st) h) := rfl
theorem e121_1 : exq sa F N S rt cd121 P Q 1 L st h = (ivS F 132 1 st h fun r s h' => P 4 L (pu r s) h') := rfl
theorem e121_4 : exq sa F N S rt cd121 P Q 4 L st h = (tI st fun a s => br (a = 0) (P 7 L s h) (P 10 L s h)) := rfl
theorem e121_7 : exq sa F N S rt cd121 P Q 7 L st h = (P 9 L (.int (Int32.ofInt (-1000001)) :: st) h) := rfl
theorem e121_9 : exq sa F N S rt cd121 P Q 9 L st h = (tI st fun v s => s = [] ∧ (rt = some .int ∨ (rt = some .boolean ∧ (v = 0 ∨ v = 1))) ∧ Q (some (.int v)) h) := rfl
theorem e121_10 : exq sa F N S rt cd121 P Q 10 L st h = (ldR L 0 fun v => P 11 L (v :: st) h) := rfl
theorem e121_11 : exq sa F N S rt cd121 P Q 11 L st h = (tR st fun a s => opt (hO h a 6) fun fs => opt (fs[2]?) fun v => P 14 L (v :: s) h) := rfl
theorem e121_14 : exq sa F N S rt cd121 P Q 14 L st h = (ivV F 16 1 2 st h fun r s h' => P 17 L (pu r s) h') := rfl
theorem e121_17 : exq sa F N S rt cd121 P Q 17 L st h = (tI st fun a s => br (a = 0) (P 20 L s h) (P 23 L s h)) := rfl
theorem e121_20 : exq sa F N S rt cd121 P Q 20 L st h = (P 22 L (.int (Int32.ofInt (-1000002)) :: st) h) := rfl
theorem e121_22 : exq sa F N S rt cd121 P Q 22 L st h = (tI st fun v s => s = [] ∧ (rt = some .int ∨ (rt = some .boolean ∧ (v = 0 ∨ v = 1))) ∧ Q (some (.int v)) h) := rfl
theorem e121_23 : exq sa F N S rt cd121 P Q 23 L st h = (ldR L 0 fun v => P 24 L (v :: st) h) := rfl
theorem e121_24 : exq sa F N S rt cd121 P Q 24 L st h = (tR st fun a s => opt (hO h a 6) fun fs => opt (fs[5]?) fun v => P 27 L (v :: s) h) := rfl
theorem e121_27 : exq sa F N S rt cd121 P Q 27 L st h = (ldI L 1 fun v => P 28 L (.int v :: st) h) := rfl
theorem e121_28 : exq sa F N S rt cd121 P Q 28 L st h = (tI st fun i s => tR s fun a s => opt (hR h a) fun q => ix i q.2.1 fun k => opt (q.2.2 k) fun v => P 29 L (.ref v :: s) h) := rfl
theorem e121_29 : exq sa F N S rt cd121 P Q 29 L st h = (ldR L 0 fun v => P 30 L (v :: st) h) := rfl
theorem e121_30 : exq sa F N S rt cd121 P Q 30 L st h = (tR st fun a s => opt (hO h a 6) fun fs => opt (fs[2]?) fun v => P 33 L (v :: s) h) := rfl
theorem e121_33 : exq sa F N S rt cd121 P Q 33 L st h = (ivV F 15 2 2 st h fun r s h' => P 36 L (pu r s) h') := rfl
theorem e121_36 : exq sa F N S rt cd121 P Q 36 L st h = (P 37 L (.int (Int32.ofInt (1)) :: st) h) := rfl
theorem e121_37 : exq sa F N S rt cd121 P Q 37 L st h = (tI st fun v s => s = [] ∧ (rt = some .int ∨ (rt = some .boolean ∧ (v = 0 ∨ v = 1))) ∧ Q (some (.int v)) h) := rfl
theorem e122_0 : exq sa F N S rt cd122 P Q 0 L st h = (ldI L 1 fun v => P 1 L (.int v :: st) h) := rfl
theorem e122_1 : exq sa F N S rt cd122 P Q 1 L st h = (ivS F 132 1 st h fun r s h' => P 4 L (pu r s) h') := rfl
theorem e122_4 : exq sa F N S rt cd122 P Q 4 L st h = (tI st fun a s => br (a = 0) (P 7 L s h) (P 10 L s h)) := rfl
theorem e122_7 : exq sa F N S rt cd122 P Q 7 L st h = (P 9 L (.int (Int32.ofInt (-1000001)) :: st) h) := rfl
theorem e122_9 : exq sa F N S rt cd122 P Q 9 L st h = (tI st fun v s => s = [] ∧ (rt = some .int ∨ (rt = some .boolean ∧ (v = 0 ∨ v = 1))) ∧ Q (some (.int v)) h) := rfl
theorem e122_10 : exq sa F N S rt cd122 P Q 10 L st h = (ldR L 0 fun v => P 11 L (v :: st) h) := rfl
theorem e122_11 : exq sa F N S rt cd122 P Q 11 L st h = (tR st fun a s => opt (hO h a 6) fun fs => opt (fs[5]?) fun v => P 14 L (v :: s) h) := rfl
theorem e122_14 : exq sa F N S rt cd122 P Q 14 L st h = (ldI L 1 fun v => P 15 L (.int v :: st) h) := rfl
theorem e122_15 : exq sa F N S rt cd122 P Q 15 L st h = (tI st fun i s => tR s fun a s => opt (hR h a) fun q => ix i q.2.1 fun k => opt (q.2.2 k) fun v => P 16 L (.ref v :: s) h) := rfl
theorem e122_16 : exq sa F N S rt cd122 P Q 16 L st h = (ivV F 16 1 2 st h fun r s h' => P 19 L (pu r s) h') := rfl
theorem e122_19 : exq sa F N S rt cd122 P Q 19 L st h = (tI st fun a s => br (a = 0) (P 22 L s h) (P 25 L s h)) := rfl
theorem e122_22 : exq sa F N S rt cd122 P Q 22 L st h = (P 24 L (.int (Int32.ofInt (-1000002)) :: st) h) := rfl
theorem e122_24 : exq sa F N S rt cd122 P Q 24 L st h = (tI st fun v s => s = [] ∧ (rt = some .int ∨ (rt = some .boolean ∧ (v = 0 ∨ v = 1))) ∧ Q (some (.int v)) h) := rfl
theorem e122_25 : exq sa F N S rt cd122 P Q 25 L st h = (ldR L 0 fun v => P 26 L (v :: st) h) := rfl
theorem e122_26 : exq sa F N S rt cd122 P Q 26 L st h = (tR st fun a s => opt (hO h a 6) fun fs => opt (fs[2]?) fun v => P 29 L (v :: s) h) := rfl
theorem e122_29 : exq sa F N S rt cd122 P Q 29 L st h = (ldR L 0 fun v => P 30 L (v :: st) h) := rfl
theorem e122_30 : exq sa F N S rt cd122 P Q 30 L st h = (tR st fun a s => opt (hO h a 6) fun fs => opt (fs[5]?) fun v => P 33 L (v :: s) h) := rfl
theorem e122_33 : exq sa F N S rt cd122 P Q 33 L st h = (ldI L 1 fun v => P 34 L (.int v :: st) h) := rfl
theorem e122_34 : exq sa F N S rt cd122 P Q 34 L st h = (tI st fun i s => tR s fun a s => opt (hR h a) fun q => ix i q.2.1 fun k => opt (q.2.2 k) fun v => P 35 L (.ref v :: s) h) := rfl
theorem e122_35 : exq sa F N S rt cd122 P Q 35 L st h = (ivV F 15 2 2 st h fun r s h' => P 38 L (pu r s) h') := rfl
theorem e122_38 : exq sa F N S rt cd122 P Q 38 L st h = (ldR L 0 fun v => P 39 L (v :: st) h) := rfl
theorem e122_39 : exq sa F N S rt cd122 P Q 39 L st h = (tR st fun a s => opt (hO h a 6) fun fs => opt (fs[3]?) fun v => P 42 L (v :: s) h) := rfl
theorem e122_42 : exq sa F N S rt cd122 P Q 42 L st h = (ivV F 1 1 0 st h fun r s h' => P 45 L (pu r s) h') := rfl
theorem e122_45 : exq sa F N S rt cd122 P Q 45 L st h = (P 46 L (.int (Int32.ofInt (1)) :: st) h) := rfl
theorem e122_46 : exq sa F N S rt cd122 P Q 46 L st h = (tI st fun v s => s = [] ∧ (rt = some .int ∨ (rt = some .boolean ∧ (v = 0 ∨ v = 1))) ∧ Q (some (.int v)) h) := rfl
theorem e123_0 : exq sa F N S rt cd123 P Q 0 L st h = (ldR L 0 fun v => P 1 L (v :: st) h) := rfl
theorem e123_1 : exq sa F N S rt cd123 P Q 1 L st h = (tR st fun a s => opt (hO h a 6) fun fs => opt (fs[2]?) fun v => P 4 L (v :: s) h) := rfl
theorem e123_4 : exq sa F N S rt cd123 P Q 4 L st h = (ldI L 1 fun v => P 5 L (.int v :: st) h) := rfl
theorem e123_5 : exq sa F N S rt cd123 P Q 5 L st h = (ivV F 17 2 2 st h fun r s h' => P 8 L (pu r s) h') := rfl
theorem e123_8 : exq sa F N S rt cd123 P Q 8 L st h = (tI st fun a s => br (a = 0) (P 23 L s h) (P 11 L s h)) := rfl
theorem e123_11 : exq sa F N S rt cd123 P Q 11 L st h = (ldR L 0 fun v => P 12 L (v :: st) h) := rfl
theorem e123_12 : exq sa F N S rt cd123 P Q 12 L st h = (tR st fun a s => opt (hO h a 6) fun fs => opt (fs[2]?) fun v => P 15 L (v :: s) h) := rfl
theorem e123_15 : exq sa F N S rt cd123 P Q 15 L st h = (tR st fun a s => opt (hO h a 2) fun fs => opt (fs[4]?) fun v => P 18 L (v :: s) h) := rfl
theorem e123_18 : exq sa F N S rt cd123 P Q 18 L st h = (ldI L 1 fun v => P 19 L (.int v :: st) h) := rfl
theorem e123_19 : exq sa F N S rt cd123 P Q 19 L st h = (ald sa st h fun v s => P 20 L (.int v :: s) h) := rfl
theorem e123_20 : exq sa F N S rt cd123 P Q 20 L st h = (P 25 L st h) := rfl
theorem e123_23 : exq sa F N S rt cd123 P Q 23 L st h = (P 25 L (.int (Int32.ofInt (-1000001)) :: st) h) := rfl
theorem e123_25 : exq sa F N S rt cd123 P Q 25 L st h = (tI st fun v s => s = [] ∧ (rt = some .int ∨ (rt = some .boolean ∧ (v = 0 ∨ v = 1))) ∧ Q (some (.int v)) h) := rfl
theorem e124_0 : exq sa F N S rt cd124 P Q 0 L st h = (ldR L 0 fun v => P 1 L (v :: st) h) := rfl
theorem e124_1 : exq sa F N S rt cd124 P Q 1 L st h = (tR st fun a s => opt (hO h a 6) fun fs => opt (fs[2]?) fun v => P 4 L (v :: s) h) := rfl
theorem e124_4 : exq sa F N S rt cd124 P Q 4 L st h = (ldI L 1 fun v => P 5 L (.int v :: st) h) := rfl
theorem e124_5 : exq sa F N S rt cd124 P Q 5 L st h = (ivV F 17 2 2 st h fun r s h' => P 8 L (pu r s) h') := rfl
theorem e124_8 : exq sa F N S rt cd124 P Q 8 L st h = (tI st fun a s => br (a = 0) (P 20 L s h) (P 11 L s h)) := rfl
theorem e124_11 : exq sa F N S rt cd124 P Q 11 L st h = (ldI L 2 fun v => P 12 L (.int v :: st) h) := rfl
theorem e124_12 : exq sa F N S rt cd124 P Q 12 L st h = (P 13 L (.int (Int32.ofInt (0)) :: st) h) := rfl
theorem e124_13 : exq sa F N S rt cd124 P Q 13 L st h = (P 14 L (.int (Int32.ofInt (5)) :: st) h) := rfl
theorem e124_14 : exq sa F N S rt cd124 P Q 14 L st h = (ivS F 131 3 st h fun r s h' => P 17 L (pu r s) h') := rfl
theorem e124_17 : exq sa F N S rt cd124 P Q 17 L st h = (tI st fun a s => br (a = 0) (P 20 L s h) (P 23 L s h)) := rfl
theorem e124_20 : exq sa F N S rt cd124 P Q 20 L st h = (P 22 L (.int (Int32.ofInt (-1000001)) :: st) h) := rfl
theorem e124_22 : exq sa F N S rt cd124 P Q 22 L st h = (tI st fun v s => s = [] ∧ (rt = some .int ∨ (rt = some .boolean ∧ (v = 0 ∨ v = 1))) ∧ Q (some (.int v)) h) := rfl
theorem e124_23 : exq sa F N S rt cd124 P Q 23 L st h = (ldR L 0 fun v => P 24 L (v :: st) h) := rfl
theorem e124_24 : exq sa F N S rt cd124 P Q 24 L st h = (tR st fun a s => opt (hO h a 6) fun fs => opt (fs[2]?) fun v => P 27 L (v :: s) h) := rfl
theorem e124_27 : exq sa F N S rt cd124 P Q 27 L st h = (tR st fun a s => opt (hO h a 2) fun fs => opt (fs[4]?) fun v => P 30 L (v :: s) h) := rfl
theorem e124_30 : exq sa F N S rt cd124 P Q 30 L st h = (ldI L 1 fun v => P 31 L (.int v :: st) h) := rfl
theorem e124_31 : exq sa F N S rt cd124 P Q 31 L st h = (ald sa st h fun v s => P 32 L (.int v :: s) h) := rfl
theorem e124_32 : exq sa F N S rt cd124 P Q 32 L st h = (ldI L 2 fun v => P 33 L (.int v :: st) h) := rfl
theorem e124_33 : exq sa F N S rt cd124 P Q 33 L st h = (ivS F 5 2 st h fun r s h' => P 36 L (pu r s) h') := rfl
theorem e124_36 : exq sa F N S rt cd124 P Q 36 L st h = (tI st fun a s => br (a = 0) (P 47 L s h) (P 39 L s h)) := rfl
theorem e124_39 : exq sa F N S rt cd124 P Q 39 L st h = (ldR L 0 fun v => P 40 L (v :: st) h) := rfl
theorem e124_40 : exq sa F N S rt cd124 P Q 40 L st h = (ldI L 1 fun v => P 41 L (.int v :: st) h) := rfl
theorem e124_41 : exq sa F N S rt cd124 P Q 41 L st h = (ivV F 130 2 6 st h fun r s h' => P 44 L (pu r s) h') := rfl
theorem e124_44 : exq sa F N S rt cd124 P Q 44 L st h = (P 52 L st h) := rfl
theorem e124_47 : exq sa F N S rt cd124 P Q 47 L st h = (ldR L 0 fun v => P 48 L (v :: st) h) := rfl
theorem e124_48 : exq sa F N S rt cd124 P Q 48 L st h = (P 49 L (.int (Int32.ofInt (3)) :: st) h) := rfl
theorem e124_49 : exq sa F N S rt cd124 P Q 49 L st h = (ivV F 129 2 6 st h fun r s h' => P 52 L (pu r s) h') := rfl
theorem e124_52 : exq sa F N S rt cd124 P Q 52 L st h = (tI st fun v s => s = [] ∧ (rt = some .int ∨ (rt = some .boolean ∧ (v = 0 ∨ v = 1))) ∧ Q (some (.int v)) h) := rfl
theorem e125_0 : exq sa F N S rt cd125 P Q 0 L st h = (ldR L 0 fun v => P 1 L (v :: st) h) := rfl
theorem e125_1 : exq sa F N S rt cd125 P Q 1 L st h = (tR st fun a s => opt (hO h a 6) fun fs => opt (fs[2]?) fun v => P 4 L (v :: s) h) := rfl
theorem e125_4 : exq sa F N S rt cd125 P Q 4 L st h = (ldI L 1 fun v => P 5 L (.int v :: st) h) := rfl
theorem e125_5 : exq sa F N S rt cd125 P Q 5 L st h = (ivV F 17 2 2 st h fun r s h' => P 8 L (pu r s) h') := rfl
theorem e125_8 : exq sa F N S rt cd125 P Q 8 L st h = (tI st fun a s => br (a = 0) (P 18 L s h) (P 11 L s h)) := rfl
theorem e125_11 : exq sa F N S rt cd125 P Q 11 L st h = (ldI L 2 fun v => P 12 L (.int v :: st) h) := rfl
theorem e125_12 : exq sa F N S rt cd125 P Q 12 L st h = (ivS F 132 1 st h fun r s h' => P 15 L (pu r s) h') := rfl
theorem e125_15 : exq sa F N S rt cd125 P Q 15 L st h = (tI st fun a s => br (a = 0) (P 18 L s h) (P 21 L s h)) := rfl
theorem e125_18 : exq sa F N S rt cd125 P Q 18 L st h = (P 20 L (.int (Int32.ofInt (-1000001)) :: st) h) := rfl
theorem e125_20 : exq sa F N S rt cd125 P Q 20 L st h = (tI st fun v s => s = [] ∧ (rt = some .int ∨ (rt = some .boolean ∧ (v = 0 ∨ v = 1))) ∧ Q (some (.int v)) h) := rfl
theorem e125_21 : exq sa F N S rt cd125 P Q 21 L st h = (ldR L 0 fun v => P 22 L (v :: st) h) := rfl
theorem e125_22 : exq sa F N S rt cd125 P Q 22 L st h = (tR st fun a s => opt (hO h a 6) fun fs => opt (fs[6]?) fun v => P 25 L (v :: s) h) := rfl
theorem e125_25 : exq sa F N S rt cd125 P Q 25 L st h = (ldI L 1 fun v => P 26 L (.int v :: st) h) := rfl
theorem e125_26 : exq sa F N S rt cd125 P Q 26 L st h = (ldR L 0 fun v => P 27 L (v :: st) h) := rfl
theorem e125_27 : exq sa F N S rt cd125 P Q 27 L st h = (tR st fun a s => opt (hO h a 6) fun fs => opt (fs[2]?) fun v => P 30 L (v :: s) h) := rfl
theorem e125_30 : exq sa F N S rt cd125 P Q 30 L st h = (tR st fun a s => opt (hO h a 2) fun fs => opt (fs[4]?) fun v => P 33 L (v :: s) h) := rfl
theorem e125_33 : exq sa F N S rt cd125 P Q 33 L st h = (ldI L 1 fun v => P 34 L (.int v :: st) h) := rfl
theorem e125_34 : exq sa F N S rt cd125 P Q 34 L st h = (ald sa st h fun v s => P 35 L (.int v :: s) h) := rfl
theorem e125_35 : exq sa F N S rt cd125 P Q 35 L st h = (ldR L 0 fun v => P 36 L (v :: st) h) := rfl
theorem e125_36 : exq sa F N S rt cd125 P Q 36 L st h = (tR st fun a s => opt (hO h a 6) fun fs => opt (fs[2]?) fun v => P 39 L (v :: s) h) := rfl
theorem e125_39 : exq sa F N S rt cd125 P Q 39 L st h = (tR st fun a s => opt (hO h a 2) fun fs => opt (fs[5]?) fun v => P 42 L (v :: s) h) := rfl
theorem e125_42 : exq sa F N S rt cd125 P Q 42 L st h = (ldI L 1 fun v => P 43 L (.int v :: st) h) := rfl
theorem e125_43 : exq sa F N S rt cd125 P Q 43 L st h = (ald sa st h fun v s => P 44 L (.int v :: s) h) := rfl
theorem e125_44 : exq sa F N S rt cd125 P Q 44 L st h = (ldR L 0 fun v => P 45 L (v :: st) h) := rfl
theorem e125_45 : exq sa F N S rt cd125 P Q 45 L st h = (tR st fun a s => opt (hO h a 6) fun fs => opt (fs[2]?) fun v => P 48 L (v :: s) h) := rfl
theorem e125_48 : exq sa F N S rt cd125 P Q 48 L st h = (tR st fun a s => opt (hO h a 2) fun fs => opt (fs[6]?) fun v => P 51 L (v :: s) h) := rfl
theorem e125_51 : exq sa F N S rt cd125 P Q 51 L st h = (ldI L 1 fun v => P 52 L (.int v :: st) h) := rfl
theorem e125_52 : exq sa F N S rt cd125 P Q 52 L st h = (ald sa st h fun v s => P 53 L (.int v :: s) h) := rfl
theorem e125_53 : exq sa F N S rt cd125 P Q 53 L st h = (ivV F 7 5 1 st h fun r s h' => P 56 L (pu r s) h') := rfl
theorem e125_56 : exq sa F N S rt cd125 P Q 56 L st h = (ldR L 0 fun v => P 57 L (v :: st) h) := rfl
theorem e125_57 : exq sa F N S rt cd125 P Q 57 L st h = (tR st fun a s => opt (hO h a 6) fun fs => opt (fs[6]?) fun v => P 60 L (v :: s) h) := rfl
theorem e125_60 : exq sa F N S rt cd125 P Q 60 L st h = (ldI L 2 fun v => P 61 L (.int v :: st) h) := rfl
theorem e125_61 : exq sa F N S rt cd125 P Q 61 L st h = (ivV F 8 2 1 st h fun r s h' => P 64 L (pu r s) h') := rfl
theorem e125_64 : exq sa F N S rt cd125 P Q 64 L st h = (tI st fun v s => s = [] ∧ (rt = some .int ∨ (rt = some .boolean ∧ (v = 0 ∨ v = 1))) ∧ Q (some (.int v)) h) := rfl
theorem e126_0 : exq sa F N S rt cd126 P Q 0 L st h = (ldI L 1 fun v => P 1 L (.int v :: st) h) := rfl
theorem e126_1 : exq sa F N S rt cd126 P Q 1 L st h = (P 2 L (.int (Int32.ofInt (0)) :: st) h) := rfl
theorem e126_2 : exq sa F N S rt cd126 P Q 2 L st h = (ldR L 0 fun v => P 3 L (v :: st) h) := rfl
theorem e126_3 : exq sa F N S rt cd126 P Q 3 L st h = (tR st fun a s => opt (hO h a 6) fun fs => opt (fs[6]?) fun v => P 6 L (v :: s) h) := rfl
theorem e126_6 : exq sa F N S rt cd126 P Q 6 L st h = (tR st fun a s => opt (hO h a 1) fun fs => opt (fs[1]?) fun v => P 9 L (v :: s) h) := rfl
theorem e126_9 : exq sa F N S rt cd126 P Q 9 L st h = (P 10 L (.int (Int32.ofInt (1)) :: st) h) := rfl
theorem e126_10 : exq sa F N S rt cd126 P Q 10 L st h = (tI st fun b s => tI s fun a s => P 11 L (.int (a - b) :: s) h) := rfl
theorem e126_11 : exq sa F N S rt cd126 P Q 11 L st h = (ivS F 131 3 st h fun r s h' => P 14 L (pu r s) h') := rfl
theorem e126_14 : exq sa F N S rt cd126 P Q 14 L st h = (tI st fun a s => br (a = 0) (P 29 L s h) (P 17 L s h)) := rfl
theorem e126_17 : exq sa F N S rt cd126 P Q 17 L st h = (ldR L 0 fun v => P 18 L (v :: st) h) := rfl
theorem e126_18 : exq sa F N S rt cd126 P Q 18 L st h = (tR st fun a s => opt (hO h a 6) fun fs => opt (fs[6]?) fun v => P 21 L (v :: s) h) := rfl
theorem e126_21 : exq sa F N S rt cd126 P Q 21 L st h = (tR st fun a s => opt (hO h a 1) fun fs => opt (fs[0]?) fun v => P 24 L (v :: s) h) := rfl
theorem e126_24 : exq sa F N S rt cd126 P Q 24 L st h = (ldI L 1 fun v => P 25 L (.int v :: st) h) := rfl
theorem e126_25 : exq sa F N S rt cd126 P Q 25 L st h = (ald sa st h fun v s => P 26 L (.int v :: s) h) := rfl
theorem e126_26 : exq sa F N S rt cd126 P Q 26 L st h = (P 31 L st h) := rfl
theorem e126_29 : exq sa F N S rt cd126 P Q 29 L st h = (P 31 L (.int (Int32.ofInt (-1000000)) :: st) h) := rfl
theorem e126_31 : exq sa F N S rt cd126 P Q 31 L st h = (tI st fun v s => s = [] ∧ (rt = some .int ∨ (rt = some .boolean ∧ (v = 0 ∨ v = 1))) ∧ Q (some (.int v)) h) := rfl
theorem e127_0 : exq sa F N S rt cd127 P Q 0 L st h = (ldI L 1 fun v => P 1 L (.int v :: st) h) := rfl
theorem e127_1 : exq sa F N S rt cd127 P Q 1 L st h = (ex1 sa F N S rt P Q 1 L st h (.tableswitch 118 0 7 #[47, 55, 63, 71, 79, 90, 102, 110]) 0 0 0 0) := rfl
theorem e127_48 : exq sa F N S rt cd127 P Q 48 L st h = (ldR L 0 fun v => P 49 L (v :: st) h) := rfl
theorem e127_49 : exq sa F N S rt cd127 P Q 49 L st h = (tR st fun a s => opt (hO h a 6) fun fs => opt (fs[0]?) fun v => P 52 L (v :: s) h) := rfl
theorem e127_52 : exq sa F N S rt cd127 P Q 52 L st h = (ivV F 81 1 5 st h fun r s h' => P 55 L (pu r s) h') := rfl
theorem e127_55 : exq sa F N S rt cd127 P Q 55 L st h = (tI st fun v s => s = [] ∧ (rt = some .int ∨ (rt = some .boolean ∧ (v = 0 ∨ v = 1))) ∧ Q (some (.int v)) h) := rfl
theorem e127_56 : exq sa F N S rt cd127 P Q 56 L st h = (ldR L 0 fun v => P 57 L (v :: st) h) := rfl
theorem e127_57 : exq sa F N S rt cd127 P Q 57 L st h = (tR st fun a s => opt (hO h a 6) fun fs => opt (fs[2]?) fun v => P 60 L (v :: s) h) := rfl
theorem e127_60 : exq sa F N S rt cd127 P Q 60 L st h = (tR st fun a s => opt (hO h a 2) fun fs => opt (fs[3]?) fun v => P 63 L (v :: s) h) := rfl
theorem e127_63 : exq sa F N S rt cd127 P Q 63 L st h = (tI st fun v s => s = [] ∧ (rt = some .int ∨ (rt = some .boolean ∧ (v = 0 ∨ v = 1))) ∧ Q (some (.int v)) h) := rfl
theorem e127_64 : exq sa F N S rt cd127 P Q 64 L st h = (ldR L 0 fun v => P 65 L (v :: st) h) := rfl
theorem e127_65 : exq sa F N S rt cd127 P Q 65 L st h = (tR st fun a s => opt (hO h a 6) fun fs => opt (fs[2]?) fun v => P 68 L (v :: s) h) := rfl
theorem e127_68 : exq sa F N S rt cd127 P Q 68 L st h = (tR st fun a s => opt (hO h a 2) fun fs => opt (fs[9]?) fun v => P 71 L (v :: s) h) := rfl
theorem e127_71 : exq sa F N S rt cd127 P Q 71 L st h = (tI st fun v s => s = [] ∧ (rt = some .int ∨ (rt = some .boolean ∧ (v = 0 ∨ v = 1))) ∧ Q (some (.int v)) h) := rfl
theorem e127_72 : exq sa F N S rt cd127 P Q 72 L st h = (ldR L 0 fun v => P 73 L (v :: st) h) := rfl
theorem e127_73 : exq sa F N S rt cd127 P Q 73 L st h = (tR st fun a s => opt (hO h a 6) fun fs => opt (fs[2]?) fun v => P 76 L (v :: s) h) := rfl
theorem e127_76 : exq sa F N S rt cd127 P Q 76 L st h = (tR st fun a s => opt (hO h a 2) fun fs => opt (fs[2]?) fun v => P 79 L (v :: s) h) := rfl
theorem e127_79 : exq sa F N S rt cd127 P Q 79 L st h = (tI st fun v s => s = [] ∧ (rt = some .int ∨ (rt = some .boolean ∧ (v = 0 ∨ v = 1))) ∧ Q (some (.int v)) h) := rfl
theorem e127_80 : exq sa F N S rt cd127 P Q 80 L st h = (ldR L 0 fun v => P 81 L (v :: st) h) := rfl
theorem e127_81 : exq sa F N S rt cd127 P Q 81 L st h = (tR st fun a s => opt (hO h a 6) fun fs => opt (fs[2]?) fun v => P 84 L (v :: s) h) := rfl
theorem e127_84 : exq sa F N S rt cd127 P Q 84 L st h = (tR st fun a s => opt (hO h a 2) fun fs => opt (fs[13]?) fun v => P 87 L (v :: s) h) := rfl
theorem e127_87 : exq sa F N S rt cd127 P Q 87 L st h = (ivS F 225 1 st h fun r s h' => P 90 L (pu r s) h') := rfl
theorem e127_90 : exq sa F N S rt cd127 P Q 90 L st h = (tI st fun v s => s = [] ∧ (rt = some .int ∨ (rt = some .boolean ∧ (v = 0 ∨ v = 1))) ∧ Q (some (.int v)) h) := rfl
theorem e127_91 : exq sa F N S rt cd127 P Q 91 L st h = (ldR L 0 fun v => P 92 L (v :: st) h) := rfl
theorem e127_92 : exq sa F N S rt cd127 P Q 92 L st h = (tR st fun a s => opt (hO h a 6) fun fs => opt (fs[2]?) fun v => P 95 L (v :: s) h) := rfl
theorem e127_95 : exq sa F N S rt cd127 P Q 95 L st h = (P 96 L (.int (Int32.ofInt (2)) :: st) h) := rfl
theorem e127_96 : exq sa F N S rt cd127 P Q 96 L st h = (ivV F 22 2 2 st h fun r s h' => P 99 L (pu r s) h') := rfl
theorem e127_99 : exq sa F N S rt cd127 P Q 99 L st h = (ivS F 225 1 st h fun r s h' => P 102 L (pu r s) h') := rfl
theorem e127_102 : exq sa F N S rt cd127 P Q 102 L st h = (tI st fun v s => s = [] ∧ (rt = some .int ∨ (rt = some .boolean ∧ (v = 0 ∨ v = 1))) ∧ Q (some (.int v)) h) := rfl
theorem e127_103 : exq sa F N S rt cd127 P Q 103 L st h = (ldR L 0 fun v => P 104 L (v :: st) h) := rfl
theorem e127_104 : exq sa F N S rt cd127 P Q 104 L st h = (tR st fun a s => opt (hO h a 6) fun fs => opt (fs[3]?) fun v => P 107 L (v :: s) h) := rfl
theorem e127_107 : exq sa F N S rt cd127 P Q 107 L st h = (tR st fun a s => opt (hO h a 0) fun fs => opt (fs[2]?) fun v => P 110 L (v :: s) h) := rfl
theorem e127_110 : exq sa F N S rt cd127 P Q 110 L st h = (tI st fun v s => s = [] ∧ (rt = some .int ∨ (rt = some .boolean ∧ (v = 0 ∨ v = 1))) ∧ Q (some (.int v)) h) := rfl
theorem e127_111 : exq sa F N S rt cd127 P Q 111 L st h = (ldR L 0 fun v => P 112 L (v :: st) h) := rfl
theorem e127_112 : exq sa F N S rt cd127 P Q 112 L st h = (tR st fun a s => opt (hO h a 6) fun fs => opt (fs[1]?) fun v => P 115 L (v :: s) h) := rfl
theorem e127_115 : exq sa F N S rt cd127 P Q 115 L st h = (tR st fun a s => opt (hO h a 4) fun fs => opt (fs[2]?) fun v => P 118 L (v :: s) h) := rfl
theorem e127_118 : exq sa F N S rt cd127 P Q 118 L st h = (tI st fun v s => s = [] ∧ (rt = some .int ∨ (rt = some .boolean ∧ (v = 0 ∨ v = 1))) ∧ Q (some (.int v)) h) := rfl
theorem e127_119 : exq sa F N S rt cd127 P Q 119 L st h = (P 121 L (.int (Int32.ofInt (-1000001)) :: st) h) := rfl
theorem e127_121 : exq sa F N S rt cd127 P Q 121 L st h = (tI st fun v s => s = [] ∧ (rt = some .int ∨ (rt = some .boolean ∧ (v = 0 ∨ v = 1))) ∧ Q (some (.int v)) h) := rfl
theorem e128_0 : exq sa F N S rt cd128 P Q 0 L st h = (ldR L 0 fun v => P 1 L (v :: st) h) := rfl
theorem e128_1 : exq sa F N S rt cd128 P Q 1 L st h = (tR st fun a s => opt (hO h a 6) fun fs => opt (fs[8]?) fun v => P 4 L (v :: s) h) := rfl
theorem e128_4 : exq sa F N S rt cd128 P Q 4 L st h = (tI st fun v s => s = [] ∧ (rt = some .int ∨ (rt = some .boolean ∧ (v = 0 ∨ v = 1))) ∧ Q (some (.int v)) h) := rfl
theorem e129_0 : exq sa F N S rt cd129 P Q 0 L st h = (ldR L 0 fun v => P 1 L (v :: st) h) := rfl
theorem e129_1 : exq sa F N S rt cd129 P Q 1 L st h = (ldI L 1 fun v => P 2 L (.int v :: st) h) := rfl
theorem e129_2 : exq sa F N S rt cd129 P Q 2 L st h = (pfd st h 6 8 0 fun s h' => P 5 L s h') := rfl
theorem e129_5 : exq sa F N S rt cd129 P Q 5 L st h = (P 8 L (.int (Int32.ofInt (-1000010)) :: st) h) := rfl
theorem e129_8 : exq sa F N S rt cd129 P Q 8 L st h = (ldI L 1 fun v => P 9 L (.int v :: st) h) := rfl
theorem e129_9 : exq sa F N S rt cd129 P Q 9 L st h = (tI st fun b s => tI s fun a s => P 10 L (.int (a - b) :: s) h) := rfl
theorem e129_10 : exq sa F N S rt cd129 P Q 10 L st h = (tI st fun v s => s = [] ∧ (rt = some .int ∨ (rt = some .boolean ∧ (v = 0 ∨ v = 1))) ∧ Q (some (.int v)) h) := rfl
theorem e130_0 : exq sa F N S rt cd130 P Q 0 L st h = (ldR L 0 fun v => P 1 L (v :: st) h) := rfl
theorem e130_1 : exq sa F N S rt cd130 P Q 1 L st h = (P 2 L (.int (Int32.ofInt (0)) :: st) h) := rfl
theorem e130_2 : exq sa F N S rt cd130 P Q 2 L st h = (pfd st h 6 8 0 fun s h' => P 5 L s h') := rfl
theorem e130_5 : exq sa F N S rt cd130 P Q 5 L st h = (ldI L 1 fun v => P 6 L (.int v :: st) h) := rfl
theorem e130_6 : exq sa F N S rt cd130 P Q 6 L st h = (tI st fun v s => s = [] ∧ (rt = some .int ∨ (rt = some .boolean ∧ (v = 0 ∨ v = 1))) ∧ Q (some (.int v)) h) := rfl
theorem e131_0 : exq sa F N S rt cd131 P Q 0 L st h = (ldI L 0 fun v => P 1 L (.int v :: st) h) := rfl
theorem e131_1 : exq sa F N S rt cd131 P Q 1 L st h = (ldI L 1 fun v => P 2 L (.int v :: st) h) := rfl
theorem e131_2 : exq sa F N S rt cd131 P Q 2 L st h = (tI st fun b s => tI s fun a s => br (a < b) (P 14 L s h) (P 5 L s h)) := rfl
theorem e131_5 : exq sa F N S rt cd131 P Q 5 L st h = (ldI L 0 fun v => P 6 L (.int v :: st) h) := rfl
theorem e131_6 : exq sa F N S rt cd131 P Q 6 L st h = (ldI L 2 fun v => P 7 L (.int v :: st) h) := rfl
theorem e131_7 : exq sa F N S rt cd131 P Q 7 L st h = (tI st fun b s => tI s fun a s => br (b < a) (P 14 L s h) (P 10 L s h)) := rfl
theorem e131_10 : exq sa F N S rt cd131 P Q 10 L st h = (P 11 L (.int (Int32.ofInt (1)) :: st) h) := rfl
theorem e131_11 : exq sa F N S rt cd131 P Q 11 L st h = (P 15 L st h) := rfl
theorem e131_14 : exq sa F N S rt cd131 P Q 14 L st h = (P 15 L (.int (Int32.ofInt (0)) :: st) h) := rfl
theorem e131_15 : exq sa F N S rt cd131 P Q 15 L st h = (tI st fun v s => s = [] ∧ (rt = some .int ∨ (rt = some .boolean ∧ (v = 0 ∨ v = 1))) ∧ Q (some (.int v)) h) := rfl
theorem e132_0 : exq sa F N S rt cd132 P Q 0 L st h = (ldI L 0 fun v => P 1 L (.int v :: st) h) := rfl
theorem e132_1 : exq sa F N S rt cd132 P Q 1 L st h = (tI st fun a s => br (a = 0) (P 9 L s h) (P 4 L s h)) := rfl
theorem e132_4 : exq sa F N S rt cd132 P Q 4 L st h = (ldI L 0 fun v => P 5 L (.int v :: st) h) := rfl
theorem e132_5 : exq sa F N S rt cd132 P Q 5 L st h = (P 6 L (.int (Int32.ofInt (1)) :: st) h) := rfl
theorem e132_6 : exq sa F N S rt cd132 P Q 6 L st h = (tI st fun b s => tI s fun a s => br (a = b) (P 9 L s h) (P 13 L s h)) := rfl
theorem e132_9 : exq sa F N S rt cd132 P Q 9 L st h = (P 10 L (.int (Int32.ofInt (1)) :: st) h) := rfl
theorem e132_10 : exq sa F N S rt cd132 P Q 10 L st h = (P 14 L st h) := rfl
theorem e132_13 : exq sa F N S rt cd132 P Q 13 L st h = (P 14 L (.int (Int32.ofInt (0)) :: st) h) := rfl
theorem e132_14 : exq sa F N S rt cd132 P Q 14 L st h = (tI st fun v s => s = [] ∧ (rt = some .int ∨ (rt = some .boolean ∧ (v = 0 ∨ v = 1))) ∧ Q (some (.int v)) h) := rfl
theorem e133_0 : exq sa F N S rt cd133 P Q 0 L st h = (ldI L 0 fun v => P 1 L (.int v :: st) h) := rfl
theorem e133_1 : exq sa F N S rt cd133 P Q 1 L st h = (ivS F 79 1 st h fun r s h' => P 4 L (pu r s) h') := rfl
theorem e133_4 : exq sa F N S rt cd133 P Q 4 L st h = (tI st fun a s => br (a = 0) (P 21 L s h) (P 7 L s h)) := rfl
theorem e133_7 : exq sa F N S rt cd133 P Q 7 L st h = (ldI L 1 fun v => P 8 L (.int v :: st) h) := rfl
theorem e133_8 : exq sa F N S rt cd133 P Q 8 L st h = (P 9 L (.int (Int32.ofInt (1)) :: st) h) := rfl
theorem e133_9 : exq sa F N S rt cd133 P Q 9 L st h = (P 11 L (.int (Int32.ofInt (12)) :: st) h) := rfl
theorem e133_11 : exq sa F N S rt cd133 P Q 11 L st h = (ivS F 131 3 st h fun r s h' => P 14 L (pu r s) h') := rfl
theorem e133_14 : exq sa F N S rt cd133 P Q 14 L st h = (tI st fun a s => br (a = 0) (P 21 L s h) (P 17 L s h)) := rfl
theorem e133_17 : exq sa F N S rt cd133 P Q 17 L st h = (P 18 L (.int (Int32.ofInt (1)) :: st) h) := rfl
theorem e133_18 : exq sa F N S rt cd133 P Q 18 L st h = (P 22 L st h) := rfl
theorem e133_21 : exq sa F N S rt cd133 P Q 21 L st h = (P 22 L (.int (Int32.ofInt (0)) :: st) h) := rfl
theorem e133_22 : exq sa F N S rt cd133 P Q 22 L st h = (tI st fun v s => s = [] ∧ (rt = some .int ∨ (rt = some .boolean ∧ (v = 0 ∨ v = 1))) ∧ Q (some (.int v)) h) := rfl
theorem e134_0 : exq sa F N S rt cd134 P Q 0 L st h = (ldR L 0 fun v => P 1 L (v :: st) h) := rfl
theorem e134_1 : exq sa F N S rt cd134 P Q 1 L st h = (ex1 sa F N S rt P Q 1 L st h (.invokespecial 1) 3 0 1 0) := rfl
theorem e134_4 : exq sa F N S rt cd134 P Q 4 L st h = (ldR L 0 fun v => P 5 L (v :: st) h) := rfl
theorem e134_5 : exq sa F N S rt cd134 P Q 5 L st h = (P 7 L (.int (Int32.ofInt (8)) :: st) h) := rfl
theorem e134_7 : exq sa F N S rt cd134 P Q 7 L st h = (ex1 sa F N S rt P Q 7 L st h (.newarray .int) 0 0 0 0) := rfl
theorem e134_9 : exq sa F N S rt cd134 P Q 9 L st h = (pfd st h 7 0 2 fun s h' => P 12 L s h') := rfl
theorem e134_12 : exq sa F N S rt cd134 P Q 12 L st h = (ldR L 0 fun v => P 13 L (v :: st) h) := rfl
theorem e134_13 : exq sa F N S rt cd134 P Q 13 L st h = (P 15 L (.int (Int32.ofInt (8)) :: st) h) := rfl
theorem e134_15 : exq sa F N S rt cd134 P Q 15 L st h = (ex1 sa F N S rt P Q 15 L st h (.newarray .int) 0 0 0 0) := rfl
theorem e134_17 : exq sa F N S rt cd134 P Q 17 L st h = (pfd st h 7 1 2 fun s h' => P 20 L s h') := rfl
theorem e134_20 : exq sa F N S rt cd134 P Q 20 L st h = (ldR L 0 fun v => P 21 L (v :: st) h) := rfl
theorem e134_21 : exq sa F N S rt cd134 P Q 21 L st h = (P 24 L (.int (Int32.ofInt (320)) :: st) h) := rfl
theorem e134_24 : exq sa F N S rt cd134 P Q 24 L st h = (ex1 sa F N S rt P Q 24 L st h (.newarray .int) 0 0 0 0) := rfl
theorem e134_26 : exq sa F N S rt cd134 P Q 26 L st h = (pfd st h 7 2 2 fun s h' => P 29 L s h') := rfl
theorem e134_29 : exq sa F N S rt cd134 P Q 29 L st h = (ldR L 0 fun v => P 30 L (v :: st) h) := rfl
theorem e134_30 : exq sa F N S rt cd134 P Q 30 L st h = (P 32 L (.int (Int32.ofInt (120)) :: st) h) := rfl
theorem e134_32 : exq sa F N S rt cd134 P Q 32 L st h = (ex1 sa F N S rt P Q 32 L st h (.newarray .int) 0 0 0 0) := rfl
theorem e134_34 : exq sa F N S rt cd134 P Q 34 L st h = (pfd st h 7 5 2 fun s h' => P 37 L s h') := rfl
theorem e134_37 : exq sa F N S rt cd134 P Q 37 L st h = (ldR L 0 fun v => P 38 L (v :: st) h) := rfl
theorem e134_38 : exq sa F N S rt cd134 P Q 38 L st h = (P 40 L (.int (Int32.ofInt (15)) :: st) h) := rfl
theorem e134_40 : exq sa F N S rt cd134 P Q 40 L st h = (ex1 sa F N S rt P Q 40 L st h (.newarray .int) 0 0 0 0) := rfl
theorem e134_42 : exq sa F N S rt cd134 P Q 42 L st h = (pfd st h 7 12 2 fun s h' => P 45 L s h') := rfl
theorem e134_45 : exq sa F N S rt cd134 P Q 45 L st h = (ldR L 0 fun v => P 46 L (v :: st) h) := rfl
theorem e134_46 : exq sa F N S rt cd134 P Q 46 L st h = (P 48 L (.int (Int32.ofInt (34)) :: st) h) := rfl
theorem e134_48 : exq sa F N S rt cd134 P Q 48 L st h = (ex1 sa F N S rt P Q 48 L st h (.newarray .int) 0 0 0 0) := rfl
theorem e134_50 : exq sa F N S rt cd134 P Q 50 L st h = (pfd st h 7 13 2 fun s h' => P 53 L s h') := rfl
theorem e134_53 : exq sa F N S rt cd134 P Q 53 L st h = (ldR L 0 fun v => P 54 L (v :: st) h) := rfl
theorem e134_54 : exq sa F N S rt cd134 P Q 54 L st h = (P 55 L (.int (Int32.ofInt (1)) :: st) h) := rfl
theorem e134_55 : exq sa F N S rt cd134 P Q 55 L st h = (ex1 sa F N S rt P Q 55 L st h (.newarray .int) 0 0 0 0) := rfl
theorem e134_57 : exq sa F N S rt cd134 P Q 57 L st h = (pfd st h 7 14 2 fun s h' => P 60 L s h') := rfl
theorem e134_60 : exq sa F N S rt cd134 P Q 60 L st h = (ldR L 0 fun v => P 61 L (v :: st) h) := rfl
theorem e134_61 : exq sa F N S rt cd134 P Q 61 L st h = (P 63 L (.int (Int32.ofInt (15)) :: st) h) := rfl
theorem e134_63 : exq sa F N S rt cd134 P Q 63 L st h = (ex1 sa F N S rt P Q 63 L st h (.newarray .int) 0 0 0 0) := rfl
theorem e134_65 : exq sa F N S rt cd134 P Q 65 L st h = (pfd st h 7 16 2 fun s h' => P 68 L s h') := rfl
theorem e134_68 : exq sa F N S rt cd134 P Q 68 L st h = (ldR L 0 fun v => P 69 L (v :: st) h) := rfl
theorem e134_69 : exq sa F N S rt cd134 P Q 69 L st h = (P 71 L (.int (Int32.ofInt (34)) :: st) h) := rfl
theorem e134_71 : exq sa F N S rt cd134 P Q 71 L st h = (ex1 sa F N S rt P Q 71 L st h (.newarray .int) 0 0 0 0) := rfl
theorem e134_73 : exq sa F N S rt cd134 P Q 73 L st h = (pfd st h 7 17 2 fun s h' => P 76 L s h') := rfl
theorem e134_76 : exq sa F N S rt cd134 P Q 76 L st h = (ldR L 0 fun v => P 77 L (v :: st) h) := rfl
theorem e134_77 : exq sa F N S rt cd134 P Q 77 L st h = (P 79 L (.int (Int32.ofInt (34)) :: st) h) := rfl
theorem e134_79 : exq sa F N S rt cd134 P Q 79 L st h = (ex1 sa F N S rt P Q 79 L st h (.newarray .int) 0 0 0 0) := rfl
theorem e134_81 : exq sa F N S rt cd134 P Q 81 L st h = (pfd st h 7 18 2 fun s h' => P 84 L s h') := rfl
theorem e134_84 : exq sa F N S rt cd134 P Q 84 L st h = (ldR L 0 fun v => P 85 L (v :: st) h) := rfl
theorem e134_85 : exq sa F N S rt cd134 P Q 85 L st h = (P 88 L (.int (Int32.ofInt (816)) :: st) h) := rfl
theorem e134_88 : exq sa F N S rt cd134 P Q 88 L st h = (ex1 sa F N S rt P Q 88 L st h (.newarray .int) 0 0 0 0) := rfl
theorem e134_90 : exq sa F N S rt cd134 P Q 90 L st h = (pfd st h 7 22 2 fun s h' => P 93 L s h') := rfl
theorem e134_93 : exq sa F N S rt cd134 P Q 93 L st h = (ldR L 0 fun v => P 94 L (v :: st) h) := rfl
theorem e134_94 : exq sa F N S rt cd134 P Q 94 L st h = (P 96 L (.int (Int32.ofInt (32)) :: st) h) := rfl
theorem e134_96 : exq sa F N S rt cd134 P Q 96 L st h = (ex1 sa F N S rt P Q 96 L st h (.newarray .int) 0 0 0 0) := rfl
theorem e134_98 : exq sa F N S rt cd134 P Q 98 L st h = (pfd st h 7 23 2 fun s h' => P 101 L s h') := rfl
theorem e134_101 : exq sa F N S rt cd134 P Q 101 L st h = (ldR L 0 fun v => P 102 L (v :: st) h) := rfl
theorem e134_102 : exq sa F N S rt cd134 P Q 102 L st h = (P 103 L (.int (Int32.ofInt (2)) :: st) h) := rfl
theorem e134_103 : exq sa F N S rt cd134 P Q 103 L st h = (ex1 sa F N S rt P Q 103 L st h (.newarray .boolean) 0 0 0 0) := rfl
theorem e134_105 : exq sa F N S rt cd134 P Q 105 L st h = (pfd st h 7 24 2 fun s h' => P 108 L s h') := rfl
theorem e134_108 : exq sa F N S rt cd134 P Q 108 L st h = (ldR L 0 fun v => P 109 L (v :: st) h) := rfl
theorem e134_109 : exq sa F N S rt cd134 P Q 109 L st h = (P 111 L (.int (Int32.ofInt (30)) :: st) h) := rfl
theorem e134_111 : exq sa F N S rt cd134 P Q 111 L st h = (ex1 sa F N S rt P Q 111 L st h (.newarray .int) 0 0 0 0) := rfl
theorem e134_113 : exq sa F N S rt cd134 P Q 113 L st h = (pfd st h 7 25 2 fun s h' => P 116 L s h') := rfl
theorem e134_116 : exq sa F N S rt cd134 P Q 116 L st h = (ldR L 0 fun v => P 117 L (v :: st) h) := rfl
theorem e134_117 : exq sa F N S rt cd134 P Q 117 L st h = (P 119 L (.int (Int32.ofInt (68)) :: st) h) := rfl
theorem e134_119 : exq sa F N S rt cd134 P Q 119 L st h = (ex1 sa F N S rt P Q 119 L st h (.newarray .int) 0 0 0 0) := rfl
theorem e134_121 : exq sa F N S rt cd134 P Q 121 L st h = (pfd st h 7 26 2 fun s h' => P 124 L s h') := rfl
theorem e134_124 : exq sa F N S rt cd134 P Q 124 L st h = (ldR L 0 fun v => P 125 L (v :: st) h) := rfl
theorem e134_125 : exq sa F N S rt cd134 P Q 125 L st h = (P 127 L (.int (Int32.ofInt (16)) :: st) h) := rfl
theorem e134_127 : exq sa F N S rt cd134 P Q 127 L st h = (ex1 sa F N S rt P Q 127 L st h (.newarray .int) 0 0 0 0) := rfl
theorem e134_129 : exq sa F N S rt cd134 P Q 129 L st h = (pfd st h 7 28 2 fun s h' => P 132 L s h') := rfl
theorem e134_132 : exq sa F N S rt cd134 P Q 132 L st h = (P 133 L (.int (Int32.ofInt (0)) :: st) h) := rfl
theorem e134_133 : exq sa F N S rt cd134 P Q 133 L st h = (tI st fun v s => lvS L 1 (.int v) fun L' => P 134 L' s h) := rfl
theorem e134_134 : exq sa F N S rt cd134 P Q 134 L st h = (ldI L 1 fun v => P 135 L (.int v :: st) h) := rfl
theorem e134_135 : exq sa F N S rt cd134 P Q 135 L st h = (P 137 L (.int (Int32.ofInt (8)) :: st) h) := rfl
theorem e134_137 : exq sa F N S rt cd134 P Q 137 L st h = (tI st fun b s => tI s fun a s => br (b ≤ a) (P 153 L s h) (P 140 L s h)) := rfl
theorem e134_140 : exq sa F N S rt cd134 P Q 140 L st h = (ldR L 0 fun v => P 141 L (v :: st) h) := rfl
theorem e134_141 : exq sa F N S rt cd134 P Q 141 L st h = (tR st fun a s => opt (hO h a 7) fun fs => opt (fs[0]?) fun v => P 144 L (v :: s) h) := rfl
theorem e134_144 : exq sa F N S rt cd134 P Q 144 L st h = (ldI L 1 fun v => P 145 L (.int v :: st) h) := rfl
theorem e134_145 : exq sa F N S rt cd134 P Q 145 L st h = (P 146 L (.int (Int32.ofInt (-1)) :: st) h) := rfl
theorem e134_146 : exq sa F N S rt cd134 P Q 146 L st h = (tI st fun v s => tI s fun i s => tR s fun a s => opt (hI h a) fun q => ix i q.1 fun k => P 147 L s (hS h a (.inl (0, q.1, .inl (upd q.2 k v))))) := rfl
theorem e134_147 : exq sa F N S rt cd134 P Q 147 L st h = (ldI L 1 fun v => lvS L 1 (.int (v + Int32.ofInt (1))) fun L' => P 150 L' st h) := rfl
theorem e134_150 : exq sa F N S rt cd134 P Q 150 L st h = (P 134 L st h) := rfl
theorem e134_153 : exq sa F N S rt cd134 P Q 153 L st h = (st = [] ∧ rt = none ∧ Q none h) := rfl
theorem e135_0 : exq sa F N S rt cd135 P Q 0 L st h = (ldI L 0 fun v => P 1 L (.int v :: st) h) := rfl
theorem e135_1 : exq sa F N S rt cd135 P Q 1 L st h = (ldI L 1 fun v => P 2 L (.int v :: st) h) := rfl
theorem e135_2 : exq sa F N S rt cd135 P Q 2 L st h = (tI st fun b s => tI s fun a s => br (a < b) (P 14 L s h) (P 5 L s h)) := rfl
theorem e135_5 : exq sa F N S rt cd135 P Q 5 L st h = (ldI L 0 fun v => P 6 L (.int v :: st) h) := rfl
theorem e135_6 : exq sa F N S rt cd135 P Q 6 L st h = (ldI L 2 fun v => P 7 L (.int v :: st) h) := rfl
theorem e135_7 : exq sa F N S rt cd135 P Q 7 L st h = (tI st fun b s => tI s fun a s => br (b < a) (P 14 L s h) (P 10 L s h)) := rfl
theorem e135_10 : exq sa F N S rt cd135 P Q 10 L st h = (P 11 L (.int (Int32.ofInt (1)) :: st) h) := rfl
theorem e135_11 : exq sa F N S rt cd135 P Q 11 L st h = (P 15 L st h) := rfl
theorem e135_14 : exq sa F N S rt cd135 P Q 14 L st h = (P 15 L (.int (Int32.ofInt (0)) :: st) h) := rfl
theorem e135_15 : exq sa F N S rt cd135 P Q 15 L st h = (tI st fun v s => s = [] ∧ (rt = some .int ∨ (rt = some .boolean ∧ (v = 0 ∨ v = 1))) ∧ Q (some (.int v)) h) := rfl
theorem e136_0 : exq sa F N S rt cd136 P Q 0 L st h = (ldI L 0 fun v => P 1 L (.int v :: st) h) := rfl
theorem e136_1 : exq sa F N S rt cd136 P Q 1 L st h = (ldI L 1 fun v => P 2 L (.int v :: st) h) := rfl
theorem e136_2 : exq sa F N S rt cd136 P Q 2 L st h = (tI st fun b s => tI s fun a s => P 3 L (.int (a >>> (b &&& 31)) :: s) h) := rfl
theorem e136_3 : exq sa F N S rt cd136 P Q 3 L st h = (P 4 L (.int (Int32.ofInt (1)) :: st) h) := rfl
theorem e136_4 : exq sa F N S rt cd136 P Q 4 L st h = (tI st fun b s => tI s fun a s => P 5 L (.int (a &&& b) :: s) h) := rfl
theorem e136_5 : exq sa F N S rt cd136 P Q 5 L st h = (P 6 L (.int (Int32.ofInt (1)) :: st) h) := rfl
theorem e136_6 : exq sa F N S rt cd136 P Q 6 L st h = (tI st fun b s => tI s fun a s => br (a = b) (P 9 L s h) (P 13 L s h)) := rfl
theorem e136_9 : exq sa F N S rt cd136 P Q 9 L st h = (P 10 L (.int (Int32.ofInt (1)) :: st) h) := rfl
theorem e136_10 : exq sa F N S rt cd136 P Q 10 L st h = (P 14 L st h) := rfl
theorem e136_13 : exq sa F N S rt cd136 P Q 13 L st h = (P 14 L (.int (Int32.ofInt (0)) :: st) h) := rfl
theorem e136_14 : exq sa F N S rt cd136 P Q 14 L st h = (tI st fun v s => s = [] ∧ (rt = some .int ∨ (rt = some .boolean ∧ (v = 0 ∨ v = 1))) ∧ Q (some (.int v)) h) := rfl
theorem e137_0 : exq sa F N S rt cd137 P Q 0 L st h = (P 1 L (.int (Int32.ofInt (0)) :: st) h) := rfl
theorem e137_1 : exq sa F N S rt cd137 P Q 1 L st h = (tI st fun v s => lvS L 1 (.int v) fun L' => P 2 L' s h) := rfl
theorem e137_2 : exq sa F N S rt cd137 P Q 2 L st h = (ldI L 0 fun v => P 3 L (.int v :: st) h) := rfl
theorem e137_3 : exq sa F N S rt cd137 P Q 3 L st h = (tI st fun v s => lvS L 2 (.int v) fun L' => P 4 L' s h) := rfl
theorem e137_4 : exq sa F N S rt cd137 P Q 4 L st h = (ldI L 2 fun v => P 5 L (.int v :: st) h) := rfl
theorem e137_5 : exq sa F N S rt cd137 P Q 5 L st h = (tI st fun a s => br (a = 0) (P 20 L s h) (P 8 L s h)) := rfl
theorem e137_8 : exq sa F N S rt cd137 P Q 8 L st h = (ldI L 1 fun v => lvS L 1 (.int (v + Int32.ofInt (1))) fun L' => P 11 L' st h) := rfl
theorem e137_11 : exq sa F N S rt cd137 P Q 11 L st h = (ldI L 2 fun v => P 12 L (.int v :: st) h) := rfl
theorem e137_12 : exq sa F N S rt cd137 P Q 12 L st h = (ldI L 2 fun v => P 13 L (.int v :: st) h) := rfl
theorem e137_13 : exq sa F N S rt cd137 P Q 13 L st h = (P 14 L (.int (Int32.ofInt (1)) :: st) h) := rfl
theorem e137_14 : exq sa F N S rt cd137 P Q 14 L st h = (tI st fun b s => tI s fun a s => P 15 L (.int (a - b) :: s) h) := rfl
theorem e137_15 : exq sa F N S rt cd137 P Q 15 L st h = (tI st fun b s => tI s fun a s => P 16 L (.int (a &&& b) :: s) h) := rfl
theorem e137_16 : exq sa F N S rt cd137 P Q 16 L st h = (tI st fun v s => lvS L 2 (.int v) fun L' => P 17 L' s h) := rfl
theorem e137_17 : exq sa F N S rt cd137 P Q 17 L st h = (P 4 L st h) := rfl
theorem e137_20 : exq sa F N S rt cd137 P Q 20 L st h = (ldI L 1 fun v => P 21 L (.int v :: st) h) := rfl
theorem e137_21 : exq sa F N S rt cd137 P Q 21 L st h = (tI st fun v s => s = [] ∧ (rt = some .int ∨ (rt = some .boolean ∧ (v = 0 ∨ v = 1))) ∧ Q (some (.int v)) h) := rfl
theorem e138_0 : exq sa F N S rt cd138 P Q 0 L st h = (ldR L 0 fun v => P 1 L (v :: st) h) := rfl
theorem e138_1 : exq sa F N S rt cd138 P Q 1 L st h = (ldI L 1 fun v => P 2 L (.int v :: st) h) := rfl
theorem e138_2 : exq sa F N S rt cd138 P Q 2 L st h = (pfd st h 7 3 0 fun s h' => P 5 L s h') := rfl
theorem e138_5 : exq sa F N S rt cd138 P Q 5 L st h = (P 7 L (.int (Int32.ofInt (-1000010)) :: st) h) := rfl
theorem e138_7 : exq sa F N S rt cd138 P Q 7 L st h = (ldI L 1 fun v => P 8 L (.int v :: st) h) := rfl
theorem e138_8 : exq sa F N S rt cd138 P Q 8 L st h = (tI st fun b s => tI s fun a s => P 9 L (.int (a - b) :: s) h) := rfl
theorem e138_9 : exq sa F N S rt cd138 P Q 9 L st h = (tI st fun v s => s = [] ∧ (rt = some .int ∨ (rt = some .boolean ∧ (v = 0 ∨ v = 1))) ∧ Q (some (.int v)) h) := rfl
theorem e139_0 : exq sa F N S rt cd139 P Q 0 L st h = (ldR L 0 fun v => P 1 L (v :: st) h) := rfl
theorem e139_1 : exq sa F N S rt cd139 P Q 1 L st h = (P 2 L (.int (Int32.ofInt (0)) :: st) h) := rfl
theorem e139_2 : exq sa F N S rt cd139 P Q 2 L st h = (pfd st h 7 3 0 fun s h' => P 5 L s h') := rfl
theorem e139_5 : exq sa F N S rt cd139 P Q 5 L st h = (ldI L 1 fun v => P 6 L (.int v :: st) h) := rfl
theorem e139_6 : exq sa F N S rt cd139 P Q 6 L st h = (tI st fun v s => s = [] ∧ (rt = some .int ∨ (rt = some .boolean ∧ (v = 0 ∨ v = 1))) ∧ Q (some (.int v)) h) := rfl
theorem e140_0 : exq sa F N S rt cd140 P Q 0 L st h = (ldR L 0 fun v => P 1 L (v :: st) h) := rfl
theorem e140_1 : exq sa F N S rt cd140 P Q 1 L st h = (tR st fun a s => opt (hO h a 7) fun fs => opt (fs[3]?) fun v => P 4 L (v :: s) h) := rfl
theorem e140_4 : exq sa F N S rt cd140 P Q 4 L st h = (tI st fun v s => s = [] ∧ (rt = some .int ∨ (rt = some .boolean ∧ (v = 0 ∨ v = 1))) ∧ Q (some (.int v)) h) := rfl
theorem e141_0 : exq sa F N S rt cd141 P Q 0 L st h = (ldI L 0 fun v => P 1 L (.int v :: st) h) := rfl
theorem e141_1 : exq sa F N S rt cd141 P Q 1 L st h = (P 2 L (.int (Int32.ofInt (0)) :: st) h) := rfl
theorem e141_2 : exq sa F N S rt cd141 P Q 2 L st h = (P 4 L (.int (Int32.ofInt (7)) :: st) h) := rfl
theorem e141_4 : exq sa F N S rt cd141 P Q 4 L st h = (ivS F 135 3 st h fun r s h' => P 7 L (pu r s) h') := rfl
theorem e141_7 : exq sa F N S rt cd141 P Q 7 L st h = (tI st fun v s => s = [] ∧ (rt = some .int ∨ (rt = some .boolean ∧ (v = 0 ∨ v = 1))) ∧ Q (some (.int v)) h) := rfl
theorem e142_0 : exq sa F N S rt cd142 P Q 0 L st h = (ldI L 3 fun v => P 1 L (.int v :: st) h) := rfl
theorem e142_1 : exq sa F N S rt cd142 P Q 1 L st h = (tI st fun a s => br (a < 0) (P 34 L s h) (P 4 L s h)) := rfl
theorem e142_4 : exq sa F N S rt cd142 P Q 4 L st h = (ldI L 2 fun v => P 5 L (.int v :: st) h) := rfl
theorem e142_5 : exq sa F N S rt cd142 P Q 5 L st h = (tI st fun a s => br (a < 0) (P 34 L s h) (P 8 L s h)) := rfl
theorem e142_8 : exq sa F N S rt cd142 P Q 8 L st h = (ldI L 2 fun v => P 9 L (.int v :: st) h) := rfl
theorem e142_9 : exq sa F N S rt cd142 P Q 9 L st h = (ldR L 0 fun v => P 10 L (v :: st) h) := rfl
theorem e142_10 : exq sa F N S rt cd142 P Q 10 L st h = (tR st fun a s => opt (hO h a 7) fun fs => opt (fs[0]?) fun v => P 13 L (v :: s) h) := rfl
theorem e142_13 : exq sa F N S rt cd142 P Q 13 L st h = (ldI L 1 fun v => P 14 L (.int v :: st) h) := rfl
theorem e142_14 : exq sa F N S rt cd142 P Q 14 L st h = (ald sa st h fun v s => P 15 L (.int v :: s) h) := rfl
theorem e142_15 : exq sa F N S rt cd142 P Q 15 L st h = (tI st fun b s => tI s fun a s => br (b < a) (P 34 L s h) (P 18 L s h)) := rfl
theorem e142_18 : exq sa F N S rt cd142 P Q 18 L st h = (ldI L 3 fun v => P 19 L (.int v :: st) h) := rfl
theorem e142_19 : exq sa F N S rt cd142 P Q 19 L st h = (ldR L 0 fun v => P 20 L (v :: st) h) := rfl
theorem e142_20 : exq sa F N S rt cd142 P Q 20 L st h = (tR st fun a s => opt (hO h a 7) fun fs => opt (fs[0]?) fun v => P 23 L (v :: s) h) := rfl
theorem e142_23 : exq sa F N S rt cd142 P Q 23 L st h = (ldI L 1 fun v => P 24 L (.int v :: st) h) := rfl
theorem e142_24 : exq sa F N S rt cd142 P Q 24 L st h = (ald sa st h fun v s => P 25 L (.int v :: s) h) := rfl
theorem e142_25 : exq sa F N S rt cd142 P Q 25 L st h = (ldI L 2 fun v => P 26 L (.int v :: st) h) := rfl
theorem e142_26 : exq sa F N S rt cd142 P Q 26 L st h = (tI st fun b s => tI s fun a s => P 27 L (.int (a - b) :: s) h) := rfl
theorem e142_27 : exq sa F N S rt cd142 P Q 27 L st h = (tI st fun b s => tI s fun a s => br (b < a) (P 34 L s h) (P 30 L s h)) := rfl
theorem e142_30 : exq sa F N S rt cd142 P Q 30 L st h = (P 31 L (.int (Int32.ofInt (1)) :: st) h) := rfl
theorem e142_31 : exq sa F N S rt cd142 P Q 31 L st h = (P 35 L st h) := rfl
theorem e142_34 : exq sa F N S rt cd142 P Q 34 L st h = (P 35 L (.int (Int32.ofInt (0)) :: st) h) := rfl
theorem e142_35 : exq sa F N S rt cd142 P Q 35 L st h = (tI st fun v s => s = [] ∧ (rt = some .int ∨ (rt = some .boolean ∧ (v = 0 ∨ v = 1))) ∧ Q (some (.int v)) h) := rfl
theorem e143_0 : exq sa F N S rt cd143 P Q 0 L st h = (ldR L 0 fun v => P 1 L (v :: st) h) := rfl
theorem e143_1 : exq sa F N S rt cd143 P Q 1 L st h = (tR st fun a s => opt (hO h a 7) fun fs => opt (fs[2]?) fun v => P 4 L (v :: s) h) := rfl
theorem e143_4 : exq sa F N S rt cd143 P Q 4 L st h = (P 6 L (.int (Int32.ofInt (40)) :: st) h) := rfl
theorem e143_6 : exq sa F N S rt cd143 P Q 6 L st h = (ldI L 1 fun v => P 7 L (.int v :: st) h) := rfl
theorem e143_7 : exq sa F N S rt cd143 P Q 7 L st h = (tI st fun b s => tI s fun a s => P 8 L (.int (a * b) :: s) h) := rfl
theorem e143_8 : exq sa F N S rt cd143 P Q 8 L st h = (ldI L 2 fun v => P 9 L (.int v :: st) h) := rfl
theorem e143_9 : exq sa F N S rt cd143 P Q 9 L st h = (tI st fun b s => tI s fun a s => P 10 L (.int (a + b) :: s) h) := rfl
theorem e143_10 : exq sa F N S rt cd143 P Q 10 L st h = (ald sa st h fun v s => P 11 L (.int v :: s) h) := rfl
theorem e143_11 : exq sa F N S rt cd143 P Q 11 L st h = (tI st fun v s => s = [] ∧ (rt = some .int ∨ (rt = some .boolean ∧ (v = 0 ∨ v = 1))) ∧ Q (some (.int v)) h) := rfl
theorem e144_0 : exq sa F N S rt cd144 P Q 0 L st h = (ldI L 1 fun v => P 1 L (.int v :: st) h) := rfl
theorem e144_1 : exq sa F N S rt cd144 P Q 1 L st h = (ivS F 141 1 st h fun r s h' => P 4 L (pu r s) h') := rfl
theorem e144_4 : exq sa F N S rt cd144 P Q 4 L st h = (tI st fun a s => br (a = 0) (P 22 L s h) (P 7 L s h)) := rfl
theorem e144_7 : exq sa F N S rt cd144 P Q 7 L st h = (ldI L 2 fun v => P 8 L (.int v :: st) h) := rfl
theorem e144_8 : exq sa F N S rt cd144 P Q 8 L st h = (P 9 L (.int (Int32.ofInt (0)) :: st) h) := rfl
theorem e144_9 : exq sa F N S rt cd144 P Q 9 L st h = (P 10 L (.int (Int32.ofInt (2)) :: st) h) := rfl
theorem e144_10 : exq sa F N S rt cd144 P Q 10 L st h = (ivS F 135 3 st h fun r s h' => P 13 L (pu r s) h') := rfl
theorem e144_13 : exq sa F N S rt cd144 P Q 13 L st h = (tI st fun a s => br (a = 0) (P 22 L s h) (P 16 L s h)) := rfl
theorem e144_16 : exq sa F N S rt cd144 P Q 16 L st h = (ldI L 3 fun v => P 17 L (.int v :: st) h) := rfl
theorem e144_17 : exq sa F N S rt cd144 P Q 17 L st h = (P 19 L (.int (Int32.ofInt (40)) :: st) h) := rfl
theorem e144_19 : exq sa F N S rt cd144 P Q 19 L st h = (tI st fun b s => tI s fun a s => br (a ≤ b) (P 25 L s h) (P 22 L s h)) := rfl
theorem e144_22 : exq sa F N S rt cd144 P Q 22 L st h = (P 24 L (.int (Int32.ofInt (-1000001)) :: st) h) := rfl
theorem e144_24 : exq sa F N S rt cd144 P Q 24 L st h = (tI st fun v s => s = [] ∧ (rt = some .int ∨ (rt = some .boolean ∧ (v = 0 ∨ v = 1))) ∧ Q (some (.int v)) h) := rfl
theorem e144_25 : exq sa F N S rt cd144 P Q 25 L st h = (ldI L 3 fun v => P 26 L (.int v :: st) h) := rfl
theorem e144_26 : exq sa F N S rt cd144 P Q 26 L st h = (tI st fun a s => br (0 ≤ a) (P 35 L s h) (P 29 L s h)) := rfl
theorem e144_29 : exq sa F N S rt cd144 P Q 29 L st h = (ldR L 0 fun v => P 30 L (v :: st) h) := rfl
theorem e144_30 : exq sa F N S rt cd144 P Q 30 L st h = (P 31 L (.int (Int32.ofInt (4)) :: st) h) := rfl
theorem e144_31 : exq sa F N S rt cd144 P Q 31 L st h = (ivV F 138 2 7 st h fun r s h' => P 34 L (pu r s) h') := rfl
theorem e144_34 : exq sa F N S rt cd144 P Q 34 L st h = (tI st fun v s => s = [] ∧ (rt = some .int ∨ (rt = some .boolean ∧ (v = 0 ∨ v = 1))) ∧ Q (some (.int v)) h) := rfl
theorem e144_35 : exq sa F N S rt cd144 P Q 35 L st h = (ldR L 0 fun v => P 36 L (v :: st) h) := rfl
theorem e144_36 : exq sa F N S rt cd144 P Q 36 L st h = (tR st fun a s => opt (hO h a 7) fun fs => opt (fs[0]?) fun v => P 39 L (v :: s) h) := rfl
theorem e144_39 : exq sa F N S rt cd144 P Q 39 L st h = (ldI L 1 fun v => P 40 L (.int v :: st) h) := rfl
theorem e144_40 : exq sa F N S rt cd144 P Q 40 L st h = (ldI L 3 fun v => P 41 L (.int v :: st) h) := rfl
theorem e144_41 : exq sa F N S rt cd144 P Q 41 L st h = (tI st fun v s => tI s fun i s => tR s fun a s => opt (hI h a) fun q => ix i q.1 fun k => P 42 L s (hS h a (.inl (0, q.1, .inl (upd q.2 k v))))) := rfl
theorem e144_42 : exq sa F N S rt cd144 P Q 42 L st h = (ldR L 0 fun v => P 43 L (v :: st) h) := rfl
theorem e144_43 : exq sa F N S rt cd144 P Q 43 L st h = (tR st fun a s => opt (hO h a 7) fun fs => opt (fs[1]?) fun v => P 46 L (v :: s) h) := rfl
theorem e144_46 : exq sa F N S rt cd144 P Q 46 L st h = (ldI L 1 fun v => P 47 L (.int v :: st) h) := rfl
theorem e144_47 : exq sa F N S rt cd144 P Q 47 L st h = (ldI L 2 fun v => P 48 L (.int v :: st) h) := rfl
theorem e144_48 : exq sa F N S rt cd144 P Q 48 L st h = (tI st fun v s => tI s fun i s => tR s fun a s => opt (hI h a) fun q => ix i q.1 fun k => P 49 L s (hS h a (.inl (0, q.1, .inl (upd q.2 k v))))) := rfl
theorem e144_49 : exq sa F N S rt cd144 P Q 49 L st h = (P 50 L (.int (Int32.ofInt (0)) :: st) h) := rfl
theorem e144_50 : exq sa F N S rt cd144 P Q 50 L st h = (tI st fun v s => lvS L 4 (.int v) fun L' => P 52 L' s h) := rfl
theorem e144_52 : exq sa F N S rt cd144 P Q 52 L st h = (ldI L 4 fun v => P 54 L (.int v :: st) h) := rfl
theorem e144_54 : exq sa F N S rt cd144 P Q 54 L st h = (ldI L 3 fun v => P 55 L (.int v :: st) h) := rfl
theorem e144_55 : exq sa F N S rt cd144 P Q 55 L st h = (tI st fun b s => tI s fun a s => br (b ≤ a) (P 77 L s h) (P 58 L s h)) := rfl
theorem e144_58 : exq sa F N S rt cd144 P Q 58 L st h = (ldR L 0 fun v => P 59 L (v :: st) h) := rfl
theorem e144_59 : exq sa F N S rt cd144 P Q 59 L st h = (tR st fun a s => opt (hO h a 7) fun fs => opt (fs[2]?) fun v => P 62 L (v :: s) h) := rfl
theorem e144_62 : exq sa F N S rt cd144 P Q 62 L st h = (P 64 L (.int (Int32.ofInt (40)) :: st) h) := rfl
theorem e144_64 : exq sa F N S rt cd144 P Q 64 L st h = (ldI L 1 fun v => P 65 L (.int v :: st) h) := rfl
theorem e144_65 : exq sa F N S rt cd144 P Q 65 L st h = (tI st fun b s => tI s fun a s => P 66 L (.int (a * b) :: s) h) := rfl
theorem e144_66 : exq sa F N S rt cd144 P Q 66 L st h = (ldI L 4 fun v => P 68 L (.int v :: st) h) := rfl
theorem e144_68 : exq sa F N S rt cd144 P Q 68 L st h = (tI st fun b s => tI s fun a s => P 69 L (.int (a + b) :: s) h) := rfl
theorem e144_69 : exq sa F N S rt cd144 P Q 69 L st h = (P 70 L (.int (Int32.ofInt (0)) :: st) h) := rfl
theorem e144_70 : exq sa F N S rt cd144 P Q 70 L st h = (tI st fun v s => tI s fun i s => tR s fun a s => opt (hI h a) fun q => ix i q.1 fun k => P 71 L s (hS h a (.inl (0, q.1, .inl (upd q.2 k v))))) := rfl
theorem e144_71 : exq sa F N S rt cd144 P Q 71 L st h = (ldI L 4 fun v => lvS L 4 (.int (v + Int32.ofInt (1))) fun L' => P 74 L' st h) := rfl
theorem e144_74 : exq sa F N S rt cd144 P Q 74 L st h = (P 52 L st h) := rfl
theorem e144_77 : exq sa F N S rt cd144 P Q 77 L st h = (ldR L 0 fun v => P 78 L (v :: st) h) := rfl
theorem e144_78 : exq sa F N S rt cd144 P Q 78 L st h = (ldI L 3 fun v => P 79 L (.int v :: st) h) := rfl
theorem e144_79 : exq sa F N S rt cd144 P Q 79 L st h = (ivV F 139 2 7 st h fun r s h' => P 82 L (pu r s) h') := rfl
theorem e144_82 : exq sa F N S rt cd144 P Q 82 L st h = (tI st fun v s => s = [] ∧ (rt = some .int ∨ (rt = some .boolean ∧ (v = 0 ∨ v = 1))) ∧ Q (some (.int v)) h) := rfl
theorem e145_0 : exq sa F N S rt cd145 P Q 0 L st h = (ldI L 1 fun v => P 1 L (.int v :: st) h) := rfl
theorem e145_1 : exq sa F N S rt cd145 P Q 1 L st h = (ivS F 141 1 st h fun r s h' => P 4 L (pu r s) h') := rfl
theorem e145_4 : exq sa F N S rt cd145 P Q 4 L st h = (tI st fun a s => br (a = 0) (P 7 L s h) (P 10 L s h)) := rfl
theorem e145_7 : exq sa F N S rt cd145 P Q 7 L st h = (P 9 L (.int (Int32.ofInt (-1000001)) :: st) h) := rfl
theorem e145_9 : exq sa F N S rt cd145 P Q 9 L st h = (tI st fun v s => s = [] ∧ (rt = some .int ∨ (rt = some .boolean ∧ (v = 0 ∨ v = 1))) ∧ Q (some (.int v)) h) := rfl
theorem e145_10 : exq sa F N S rt cd145 P Q 10 L st h = (ldR L 0 fun v => P 11 L (v :: st) h) := rfl
theorem e145_11 : exq sa F N S rt cd145 P Q 11 L st h = (tR st fun a s => opt (hO h a 7) fun fs => opt (fs[0]?) fun v => P 14 L (v :: s) h) := rfl
theorem e145_14 : exq sa F N S rt cd145 P Q 14 L st h = (ldI L 1 fun v => P 15 L (.int v :: st) h) := rfl
theorem e145_15 : exq sa F N S rt cd145 P Q 15 L st h = (ald sa st h fun v s => P 16 L (.int v :: s) h) := rfl
theorem e145_16 : exq sa F N S rt cd145 P Q 16 L st h = (tI st fun a s => br (0 ≤ a) (P 25 L s h) (P 19 L s h)) := rfl
theorem e145_19 : exq sa F N S rt cd145 P Q 19 L st h = (ldR L 0 fun v => P 20 L (v :: st) h) := rfl
theorem e145_20 : exq sa F N S rt cd145 P Q 20 L st h = (P 21 L (.int (Int32.ofInt (1)) :: st) h) := rfl
theorem e145_21 : exq sa F N S rt cd145 P Q 21 L st h = (ivV F 138 2 7 st h fun r s h' => P 24 L (pu r s) h') := rfl
theorem e145_24 : exq sa F N S rt cd145 P Q 24 L st h = (tI st fun v s => s = [] ∧ (rt = some .int ∨ (rt = some .boolean ∧ (v = 0 ∨ v = 1))) ∧ Q (some (.int v)) h) := rfl
theorem e145_25 : exq sa F N S rt cd145 P Q 25 L st h = (ldI L 2 fun v => P 26 L (.int v :: st) h) := rfl
theorem e145_26 : exq sa F N S rt cd145 P Q 26 L st h = (P 27 L (.int (Int32.ofInt (0)) :: st) h) := rfl
theorem e145_27 : exq sa F N S rt cd145 P Q 27 L st h = (ldR L 0 fun v => P 28 L (v :: st) h) := rfl
theorem e145_28 : exq sa F N S rt cd145 P Q 28 L st h = (tR st fun a s => opt (hO h a 7) fun fs => opt (fs[0]?) fun v => P 31 L (v :: s) h) := rfl
theorem e145_31 : exq sa F N S rt cd145 P Q 31 L st h = (ldI L 1 fun v => P 32 L (.int v :: st) h) := rfl
theorem e145_32 : exq sa F N S rt cd145 P Q 32 L st h = (ald sa st h fun v s => P 33 L (.int v :: s) h) := rfl
theorem e145_33 : exq sa F N S rt cd145 P Q 33 L st h = (P 34 L (.int (Int32.ofInt (1)) :: st) h) := rfl
theorem e145_34 : exq sa F N S rt cd145 P Q 34 L st h = (tI st fun b s => tI s fun a s => P 35 L (.int (a - b) :: s) h) := rfl
theorem e145_35 : exq sa F N S rt cd145 P Q 35 L st h = (ivS F 135 3 st h fun r s h' => P 38 L (pu r s) h') := rfl
theorem e145_38 : exq sa F N S rt cd145 P Q 38 L st h = (tI st fun a s => br (a = 0) (P 41 L s h) (P 47 L s h)) := rfl
theorem e145_41 : exq sa F N S rt cd145 P Q 41 L st h = (ldR L 0 fun v => P 42 L (v :: st) h) := rfl
theorem e145_42 : exq sa F N S rt cd145 P Q 42 L st h = (P 43 L (.int (Int32.ofInt (2)) :: st) h) := rfl
theorem e145_43 : exq sa F N S rt cd145 P Q 43 L st h = (ivV F 138 2 7 st h fun r s h' => P 46 L (pu r s) h') := rfl
theorem e145_46 : exq sa F N S rt cd145 P Q 46 L st h = (tI st fun v s => s = [] ∧ (rt = some .int ∨ (rt = some .boolean ∧ (v = 0 ∨ v = 1))) ∧ Q (some (.int v)) h) := rfl
theorem e145_47 : exq sa F N S rt cd145 P Q 47 L st h = (ldR L 0 fun v => P 48 L (v :: st) h) := rfl
theorem e145_48 : exq sa F N S rt cd145 P Q 48 L st h = (tR st fun a s => opt (hO h a 7) fun fs => opt (fs[1]?) fun v => P 51 L (v :: s) h) := rfl
theorem e145_51 : exq sa F N S rt cd145 P Q 51 L st h = (ldI L 1 fun v => P 52 L (.int v :: st) h) := rfl
theorem e145_52 : exq sa F N S rt cd145 P Q 52 L st h = (ald sa st h fun v s => P 53 L (.int v :: s) h) := rfl
theorem e145_53 : exq sa F N S rt cd145 P Q 53 L st h = (tI st fun a s => br (a = 0) (P 56 L s h) (P 61 L s h)) := rfl
theorem e145_56 : exq sa F N S rt cd145 P Q 56 L st h = (ldI L 3 fun v => P 57 L (.int v :: st) h) := rfl
theorem e145_57 : exq sa F N S rt cd145 P Q 57 L st h = (tI st fun a s => P 58 L (.int a.toInt8.toInt32 :: s) h) := rfl
theorem e145_58 : exq sa F N S rt cd145 P Q 58 L st h = (P 77 L st h) := rfl
theorem e145_61 : exq sa F N S rt cd145 P Q 61 L st h = (ldR L 0 fun v => P 62 L (v :: st) h) := rfl
theorem e145_62 : exq sa F N S rt cd145 P Q 62 L st h = (tR st fun a s => opt (hO h a 7) fun fs => opt (fs[1]?) fun v => P 65 L (v :: s) h) := rfl
theorem e145_65 : exq sa F N S rt cd145 P Q 65 L st h = (ldI L 1 fun v => P 66 L (.int v :: st) h) := rfl
theorem e145_66 : exq sa F N S rt cd145 P Q 66 L st h = (ald sa st h fun v s => P 67 L (.int v :: s) h) := rfl
theorem e145_67 : exq sa F N S rt cd145 P Q 67 L st h = (P 68 L (.int (Int32.ofInt (1)) :: st) h) := rfl
theorem e145_68 : exq sa F N S rt cd145 P Q 68 L st h = (tI st fun b s => tI s fun a s => br (a = b) (P 71 L s h) (P 76 L s h)) := rfl
theorem e145_71 : exq sa F N S rt cd145 P Q 71 L st h = (ldI L 3 fun v => P 72 L (.int v :: st) h) := rfl
theorem e145_72 : exq sa F N S rt cd145 P Q 72 L st h = (tI st fun a s => P 73 L (.int a.toInt16.toInt32 :: s) h) := rfl
theorem e145_73 : exq sa F N S rt cd145 P Q 73 L st h = (P 77 L st h) := rfl
theorem e145_76 : exq sa F N S rt cd145 P Q 76 L st h = (ldI L 3 fun v => P 77 L (.int v :: st) h) := rfl
theorem e145_77 : exq sa F N S rt cd145 P Q 77 L st h = (tI st fun v s => lvS L 4 (.int v) fun L' => P 79 L' s h) := rfl
theorem e145_79 : exq sa F N S rt cd145 P Q 79 L st h = (ldR L 0 fun v => P 80 L (v :: st) h) := rfl
theorem e145_80 : exq sa F N S rt cd145 P Q 80 L st h = (tR st fun a s => opt (hO h a 7) fun fs => opt (fs[2]?) fun v => P 83 L (v :: s) h) := rfl
theorem e145_83 : exq sa F N S rt cd145 P Q 83 L st h = (P 85 L (.int (Int32.ofInt (40)) :: st) h) := rfl
theorem e145_85 : exq sa F N S rt cd145 P Q 85 L st h = (ldI L 1 fun v => P 86 L (.int v :: st) h) := rfl
theorem e145_86 : exq sa F N S rt cd145 P Q 86 L st h = (tI st fun b s => tI s fun a s => P 87 L (.int (a * b) :: s) h) := rfl
theorem e145_87 : exq sa F N S rt cd145 P Q 87 L st h = (ldI L 2 fun v => P 88 L (.int v :: st) h) := rfl
theorem e145_88 : exq sa F N S rt cd145 P Q 88 L st h = (tI st fun b s => tI s fun a s => P 89 L (.int (a + b) :: s) h) := rfl
theorem e145_89 : exq sa F N S rt cd145 P Q 89 L st h = (ldI L 4 fun v => P 91 L (.int v :: st) h) := rfl
theorem e145_91 : exq sa F N S rt cd145 P Q 91 L st h = (tI st fun v s => tI s fun i s => tR s fun a s => opt (hI h a) fun q => ix i q.1 fun k => P 92 L s (hS h a (.inl (0, q.1, .inl (upd q.2 k v))))) := rfl
theorem e145_92 : exq sa F N S rt cd145 P Q 92 L st h = (ldR L 0 fun v => P 93 L (v :: st) h) := rfl
theorem e145_93 : exq sa F N S rt cd145 P Q 93 L st h = (ldI L 4 fun v => P 95 L (.int v :: st) h) := rfl
theorem e145_95 : exq sa F N S rt cd145 P Q 95 L st h = (ivV F 139 2 7 st h fun r s h' => P 98 L (pu r s) h') := rfl
theorem e145_98 : exq sa F N S rt cd145 P Q 98 L st h = (tI st fun v s => s = [] ∧ (rt = some .int ∨ (rt = some .boolean ∧ (v = 0 ∨ v = 1))) ∧ Q (some (.int v)) h) := rfl
theorem e146_0 : exq sa F N S rt cd146 P Q 0 L st h = (ldI L 1 fun v => P 1 L (.int v :: st) h) := rfl
theorem e146_1 : exq sa F N S rt cd146 P Q 1 L st h = (ivS F 141 1 st h fun r s h' => P 4 L (pu r s) h') := rfl
theorem e146_4 : exq sa F N S rt cd146 P Q 4 L st h = (tI st fun a s => br (a = 0) (P 14 L s h) (P 7 L s h)) := rfl
theorem e146_7 : exq sa F N S rt cd146 P Q 7 L st h = (ldI L 3 fun v => P 8 L (.int v :: st) h) := rfl
theorem e146_8 : exq sa F N S rt cd146 P Q 8 L st h = (ivS F 141 1 st h fun r s h' => P 11 L (pu r s) h') := rfl
theorem e146_11 : exq sa F N S rt cd146 P Q 11 L st h = (tI st fun a s => br (a = 0) (P 14 L s h) (P 17 L s h)) := rfl
theorem e146_14 : exq sa F N S rt cd146 P Q 14 L st h = (P 16 L (.int (Int32.ofInt (-1000001)) :: st) h) := rfl
theorem e146_16 : exq sa F N S rt cd146 P Q 16 L st h = (tI st fun v s => s = [] ∧ (rt = some .int ∨ (rt = some .boolean ∧ (v = 0 ∨ v = 1))) ∧ Q (some (.int v)) h) := rfl
theorem e146_17 : exq sa F N S rt cd146 P Q 17 L st h = (ldR L 0 fun v => P 18 L (v :: st) h) := rfl
theorem e146_18 : exq sa F N S rt cd146 P Q 18 L st h = (tR st fun a s => opt (hO h a 7) fun fs => opt (fs[0]?) fun v => P 21 L (v :: s) h) := rfl
theorem e146_21 : exq sa F N S rt cd146 P Q 21 L st h = (ldI L 1 fun v => P 22 L (.int v :: st) h) := rfl
theorem e146_22 : exq sa F N S rt cd146 P Q 22 L st h = (ald sa st h fun v s => P 23 L (.int v :: s) h) := rfl
theorem e146_23 : exq sa F N S rt cd146 P Q 23 L st h = (tI st fun a s => br (a < 0) (P 35 L s h) (P 26 L s h)) := rfl
theorem e146_26 : exq sa F N S rt cd146 P Q 26 L st h = (ldR L 0 fun v => P 27 L (v :: st) h) := rfl
theorem e146_27 : exq sa F N S rt cd146 P Q 27 L st h = (tR st fun a s => opt (hO h a 7) fun fs => opt (fs[0]?) fun v => P 30 L (v :: s) h) := rfl
theorem e146_30 : exq sa F N S rt cd146 P Q 30 L st h = (ldI L 3 fun v => P 31 L (.int v :: st) h) := rfl
theorem e146_31 : exq sa F N S rt cd146 P Q 31 L st h = (ald sa st h fun v s => P 32 L (.int v :: s) h) := rfl
theorem e146_32 : exq sa F N S rt cd146 P Q 32 L st h = (tI st fun a s => br (0 ≤ a) (P 41 L s h) (P 35 L s h)) := rfl
theorem e146_35 : exq sa F N S rt cd146 P Q 35 L st h = (ldR L 0 fun v => P 36 L (v :: st) h) := rfl
theorem e146_36 : exq sa F N S rt cd146 P Q 36 L st h = (P 37 L (.int (Int32.ofInt (1)) :: st) h) := rfl
theorem e146_37 : exq sa F N S rt cd146 P Q 37 L st h = (ivV F 138 2 7 st h fun r s h' => P 40 L (pu r s) h') := rfl
theorem e146_40 : exq sa F N S rt cd146 P Q 40 L st h = (tI st fun v s => s = [] ∧ (rt = some .int ∨ (rt = some .boolean ∧ (v = 0 ∨ v = 1))) ∧ Q (some (.int v)) h) := rfl
theorem e146_41 : exq sa F N S rt cd146 P Q 41 L st h = (ldR L 0 fun v => P 42 L (v :: st) h) := rfl
theorem e146_42 : exq sa F N S rt cd146 P Q 42 L st h = (tR st fun a s => opt (hO h a 7) fun fs => opt (fs[1]?) fun v => P 45 L (v :: s) h) := rfl
theorem e146_45 : exq sa F N S rt cd146 P Q 45 L st h = (ldI L 1 fun v => P 46 L (.int v :: st) h) := rfl
theorem e146_46 : exq sa F N S rt cd146 P Q 46 L st h = (ald sa st h fun v s => P 47 L (.int v :: s) h) := rfl
theorem e146_47 : exq sa F N S rt cd146 P Q 47 L st h = (ldR L 0 fun v => P 48 L (v :: st) h) := rfl
theorem e146_48 : exq sa F N S rt cd146 P Q 48 L st h = (tR st fun a s => opt (hO h a 7) fun fs => opt (fs[1]?) fun v => P 51 L (v :: s) h) := rfl
theorem e146_51 : exq sa F N S rt cd146 P Q 51 L st h = (ldI L 3 fun v => P 52 L (.int v :: st) h) := rfl
theorem e146_52 : exq sa F N S rt cd146 P Q 52 L st h = (ald sa st h fun v s => P 53 L (.int v :: s) h) := rfl
theorem e146_53 : exq sa F N S rt cd146 P Q 53 L st h = (tI st fun b s => tI s fun a s => br (a = b) (P 62 L s h) (P 56 L s h)) := rfl
theorem e146_56 : exq sa F N S rt cd146 P Q 56 L st h = (ldR L 0 fun v => P 57 L (v :: st) h) := rfl
theorem e146_57 : exq sa F N S rt cd146 P Q 57 L st h = (P 58 L (.int (Int32.ofInt (5)) :: st) h) := rfl
theorem e146_58 : exq sa F N S rt cd146 P Q 58 L st h = (ivV F 138 2 7 st h fun r s h' => P 61 L (pu r s) h') := rfl
theorem e146_61 : exq sa F N S rt cd146 P Q 61 L st h = (tI st fun v s => s = [] ∧ (rt = some .int ∨ (rt = some .boolean ∧ (v = 0 ∨ v = 1))) ∧ Q (some (.int v)) h) := rfl
theorem e146_62 : exq sa F N S rt cd146 P Q 62 L st h = (ldR L 0 fun v => P 63 L (v :: st) h) := rfl
theorem e146_63 : exq sa F N S rt cd146 P Q 63 L st h = (ldI L 1 fun v => P 64 L (.int v :: st) h) := rfl
theorem e146_64 : exq sa F N S rt cd146 P Q 64 L st h = (ldI L 2 fun v => P 65 L (.int v :: st) h) := rfl
theorem e146_65 : exq sa F N S rt cd146 P Q 65 L st h = (ldI L 5 fun v => P 67 L (.int v :: st) h) := rfl
theorem e146_67 : exq sa F N S rt cd146 P Q 67 L st h = (ivV F 142 4 7 st h fun r s h' => P 70 L (pu r s) h') := rfl
theorem e146_70 : exq sa F N S rt cd146 P Q 70 L st h = (tI st fun a s => br (a = 0) (P 85 L s h) (P 73 L s h)) := rfl
theorem e146_73 : exq sa F N S rt cd146 P Q 73 L st h = (ldR L 0 fun v => P 74 L (v :: st) h) := rfl
theorem e146_74 : exq sa F N S rt cd146 P Q 74 L st h = (ldI L 3 fun v => P 75 L (.int v :: st) h) := rfl
theorem e146_75 : exq sa F N S rt cd146 P Q 75 L st h = (ldI L 4 fun v => P 77 L (.int v :: st) h) := rfl
theorem e146_77 : exq sa F N S rt cd146 P Q 77 L st h = (ldI L 5 fun v => P 79 L (.int v :: st) h) := rfl
theorem e146_79 : exq sa F N S rt cd146 P Q 79 L st h = (ivV F 142 4 7 st h fun r s h' => P 82 L (pu r s) h') := rfl
theorem e146_82 : exq sa F N S rt cd146 P Q 82 L st h = (tI st fun a s => br (a = 0) (P 85 L s h) (P 91 L s h)) := rfl
theorem e146_85 : exq sa F N S rt cd146 P Q 85 L st h = (ldR L 0 fun v => P 86 L (v :: st) h) := rfl
theorem e146_86 : exq sa F N S rt cd146 P Q 86 L st h = (P 87 L (.int (Int32.ofInt (2)) :: st) h) := rfl
theorem e146_87 : exq sa F N S rt cd146 P Q 87 L st h = (ivV F 138 2 7 st h fun r s h' => P 90 L (pu r s) h') := rfl
theorem e146_90 : exq sa F N S rt cd146 P Q 90 L st h = (tI st fun v s => s = [] ∧ (rt = some .int ∨ (rt = some .boolean ∧ (v = 0 ∨ v = 1))) ∧ Q (some (.int v)) h) := rfl
theorem e146_91 : exq sa F N S rt cd146 P Q 91 L st h = (ldI L 1 fun v => P 92 L (.int v :: st) h) := rfl
theorem e146_92 : exq sa F N S rt cd146 P Q 92 L st h = (ldI L 3 fun v => P 93 L (.int v :: st) h) := rfl
theorem e146_93 : exq sa F N S rt cd146 P Q 93 L st h = (tI st fun b s => tI s fun a s => br (a = b) (P 96 L s h) (P 106 L s h)) := rfl
theorem e146_96 : exq sa F N S rt cd146 P Q 96 L st h = (ldI L 4 fun v => P 98 L (.int v :: st) h) := rfl
theorem e146_98 : exq sa F N S rt cd146 P Q 98 L st h = (ldI L 2 fun v => P 99 L (.int v :: st) h) := rfl
theorem e146_99 : exq sa F N S rt cd146 P Q 99 L st h = (tI st fun b s => tI s fun a s => br (a ≤ b) (P 106 L s h) (P 102 L s h)) := rfl
theorem e146_102 : exq sa F N S rt cd146 P Q 102 L st h = (P 103 L (.int (Int32.ofInt (1)) :: st) h) := rfl
theorem e146_103 : exq sa F N S rt cd146 P Q 103 L st h = (P 107 L st h) := rfl
theorem e146_106 : exq sa F N S rt cd146 P Q 106 L st h = (P 107 L (.int (Int32.ofInt (0)) :: st) h) := rfl
theorem e146_107 : exq sa F N S rt cd146 P Q 107 L st h = (tI st fun v s => lvS L 6 (.int v) fun L' => P 109 L' s h) := rfl
theorem e146_109 : exq sa F N S rt cd146 P Q 109 L st h = (P 110 L (.int (Int32.ofInt (0)) :: st) h) := rfl
theorem e146_110 : exq sa F N S rt cd146 P Q 110 L st h = (tI st fun v s => lvS L 7 (.int v) fun L' => P 112 L' s h) := rfl
theorem e146_112 : exq sa F N S rt cd146 P Q 112 L st h = (ldI L 7 fun v => P 114 L (.int v :: st) h) := rfl
theorem e146_114 : exq sa F N S rt cd146 P Q 114 L st h = (ldI L 5 fun v => P 116 L (.int v :: st) h) := rfl
theorem e146_116 : exq sa F N S rt cd146 P Q 116 L st h = (tI st fun b s => tI s fun a s => br (b ≤ a) (P 173 L s h) (P 119 L s h)) := rfl
theorem e146_119 : exq sa F N S rt cd146 P Q 119 L st h = (ldI L 6 fun v => P 121 L (.int v :: st) h) := rfl
theorem e146_121 : exq sa F N S rt cd146 P Q 121 L st h = (tI st fun a s => br (a = 0) (P 134 L s h) (P 124 L s h)) := rfl
theorem e146_124 : exq sa F N S rt cd146 P Q 124 L st h = (ldI L 5 fun v => P 126 L (.int v :: st) h) := rfl
theorem e146_126 : exq sa F N S rt cd146 P Q 126 L st h = (P 127 L (.int (Int32.ofInt (1)) :: st) h) := rfl
theorem e146_127 : exq sa F N S rt cd146 P Q 127 L st h = (tI st fun b s => tI s fun a s => P 128 L (.int (a - b) :: s) h) := rfl
theorem e146_128 : exq sa F N S rt cd146 P Q 128 L st h = (ldI L 7 fun v => P 130 L (.int v :: st) h) := rfl
theorem e146_130 : exq sa F N S rt cd146 P Q 130 L st h = (tI st fun b s => tI s fun a s => P 131 L (.int (a - b) :: s) h) := rfl
theorem e146_131 : exq sa F N S rt cd146 P Q 131 L st h = (P 136 L st h) := rfl
theorem e146_134 : exq sa F N S rt cd146 P Q 134 L st h = (ldI L 7 fun v => P 136 L (.int v :: st) h) := rfl
theorem e146_136 : exq sa F N S rt cd146 P Q 136 L st h = (tI st fun v s => lvS L 8 (.int v) fun L' => P 138 L' s h) := rfl
theorem e146_138 : exq sa F N S rt cd146 P Q 138 L st h = (ldR L 0 fun v => P 139 L (v :: st) h) := rfl
theorem e146_139 : exq sa F N S rt cd146 P Q 139 L st h = (tR st fun a s => opt (hO h a 7) fun fs => opt (fs[2]?) fun v => P 142 L (v :: s) h) := rfl
theorem e146_142 : exq sa F N S rt cd146 P Q 142 L st h = (P 144 L (.int (Int32.ofInt (40)) :: st) h) := rfl
theorem e146_144 : exq sa F N S rt cd146 P Q 144 L st h = (ldI L 3 fun v => P 145 L (.int v :: st) h) := rfl
theorem e146_145 : exq sa F N S rt cd146 P Q 145 L st h = (tI st fun b s => tI s fun a s => P 146 L (.int (a * b) :: s) h) := rfl
theorem e146_146 : exq sa F N S rt cd146 P Q 146 L st h = (ldI L 4 fun v => P 148 L (.int v :: st) h) := rfl
theorem e146_148 : exq sa F N S rt cd146 P Q 148 L st h = (tI st fun b s => tI s fun a s => P 149 L (.int (a + b) :: s) h) := rfl
theorem e146_149 : exq sa F N S rt cd146 P Q 149 L st h = (ldI L 8 fun v => P 151 L (.int v :: st) h) := rfl
theorem e146_151 : exq sa F N S rt cd146 P Q 151 L st h = (tI st fun b s => tI s fun a s => P 152 L (.int (a + b) :: s) h) := rfl
theorem e146_152 : exq sa F N S rt cd146 P Q 152 L st h = (ldR L 0 fun v => P 153 L (v :: st) h) := rfl
theorem e146_153 : exq sa F N S rt cd146 P Q 153 L st h = (tR st fun a s => opt (hO h a 7) fun fs => opt (fs[2]?) fun v => P 156 L (v :: s) h) := rfl
theorem e146_156 : exq sa F N S rt cd146 P Q 156 L st h = (P 158 L (.int (Int32.ofInt (40)) :: st) h) := rfl
theorem e146_158 : exq sa F N S rt cd146 P Q 158 L st h = (ldI L 1 fun v => P 159 L (.int v :: st) h) := rfl
theorem e146_159 : exq sa F N S rt cd146 P Q 159 L st h = (tI st fun b s => tI s fun a s => P 160 L (.int (a * b) :: s) h) := rfl
theorem e146_160 : exq sa F N S rt cd146 P Q 160 L st h = (ldI L 2 fun v => P 161 L (.int v :: st) h) := rfl
theorem e146_161 : exq sa F N S rt cd146 P Q 161 L st h = (tI st fun b s => tI s fun a s => P 162 L (.int (a + b) :: s) h) := rfl
theorem e146_162 : exq sa F N S rt cd146 P Q 162 L st h = (ldI L 8 fun v => P 164 L (.int v :: st) h) := rfl
theorem e146_164 : exq sa F N S rt cd146 P Q 164 L st h = (tI st fun b s => tI s fun a s => P 165 L (.int (a + b) :: s) h) := rfl
theorem e146_165 : exq sa F N S rt cd146 P Q 165 L st h = (ald sa st h fun v s => P 166 L (.int v :: s) h) := rfl
theorem e146_166 : exq sa F N S rt cd146 P Q 166 L st h = (tI st fun v s => tI s fun i s => tR s fun a s => opt (hI h a) fun q => ix i q.1 fun k => P 167 L s (hS h a (.inl (0, q.1, .inl (upd q.2 k v))))) := rfl
theorem e146_167 : exq sa F N S rt cd146 P Q 167 L st h = (ldI L 7 fun v => lvS L 7 (.int (v + Int32.ofInt (1))) fun L' => P 170 L' st h) := rfl
theorem e146_170 : exq sa F N S rt cd146 P Q 170 L st h = (P 112 L st h) := rfl
theorem e146_173 : exq sa F N S rt cd146 P Q 173 L st h = (ldR L 0 fun v => P 174 L (v :: st) h) := rfl
theorem e146_174 : exq sa F N S rt cd146 P Q 174 L st h = (ldI L 5 fun v => P 176 L (.int v :: st) h) := rfl
theorem e146_176 : exq sa F N S rt cd146 P Q 176 L st h = (ivV F 139 2 7 st h fun r s h' => P 179 L (pu r s) h') := rfl
theorem e146_179 : exq sa F N S rt cd146 P Q 179 L st h = (tI st fun v s => s = [] ∧ (rt = some .int ∨ (rt = some .boolean ∧ (v = 0 ∨ v = 1))) ∧ Q (some (.int v)) h) := rfl
theorem e147_0 : exq sa F N S rt cd147 P Q 0 L st h = (ldI L 1 fun v => P 1 L (.int v :: st) h) := rfl
theorem e147_1 : exq sa F N S rt cd147 P Q 1 L st h = (ivS F 141 1 st h fun r s h' => P 4 L (pu r s) h') := rfl
theorem e147_4 : exq sa F N S rt cd147 P Q 4 L st h = (tI st fun a s => br (a = 0) (P 7 L s h) (P 10 L s h)) := rfl
theorem e147_7 : exq sa F N S rt cd147 P Q 7 L st h = (P 9 L (.int (Int32.ofInt (-1000001)) :: st) h) := rfl
theorem e147_9 : exq sa F N S rt cd147 P Q 9 L st h = (tI st fun v s => s = [] ∧ (rt = some .int ∨ (rt = some .boolean ∧ (v = 0 ∨ v = 1))) ∧ Q (some (.int v)) h) := rfl
theorem e147_10 : exq sa F N S rt cd147 P Q 10 L st h = (ldR L 0 fun v => P 11 L (v :: st) h) := rfl
theorem e147_11 : exq sa F N S rt cd147 P Q 11 L st h = (tR st fun a s => opt (hO h a 7) fun fs => opt (fs[0]?) fun v => P 14 L (v :: s) h) := rfl
theorem e147_14 : exq sa F N S rt cd147 P Q 14 L st h = (ldI L 1 fun v => P 15 L (.int v :: st) h) := rfl
theorem e147_15 : exq sa F N S rt cd147 P Q 15 L st h = (ald sa st h fun v s => P 16 L (.int v :: s) h) := rfl
theorem e147_16 : exq sa F N S rt cd147 P Q 16 L st h = (tI st fun a s => br (0 ≤ a) (P 25 L s h) (P 19 L s h)) := rfl
theorem e147_19 : exq sa F N S rt cd147 P Q 19 L st h = (ldR L 0 fun v => P 20 L (v :: st) h) := rfl
theorem e147_20 : exq sa F N S rt cd147 P Q 20 L st h = (P 21 L (.int (Int32.ofInt (1)) :: st) h) := rfl
theorem e147_21 : exq sa F N S rt cd147 P Q 21 L st h = (ivV F 138 2 7 st h fun r s h' => P 24 L (pu r s) h') := rfl
theorem e147_24 : exq sa F N S rt cd147 P Q 24 L st h = (tI st fun v s => s = [] ∧ (rt = some .int ∨ (rt = some .boolean ∧ (v = 0 ∨ v = 1))) ∧ Q (some (.int v)) h) := rfl
theorem e147_25 : exq sa F N S rt cd147 P Q 25 L st h = (ldR L 0 fun v => P 26 L (v :: st) h) := rfl
theorem e147_26 : exq sa F N S rt cd147 P Q 26 L st h = (tR st fun a s => opt (hO h a 7) fun fs => opt (fs[0]?) fun v => P 29 L (v :: s) h) := rfl
theorem e147_29 : exq sa F N S rt cd147 P Q 29 L st h = (ldI L 1 fun v => P 30 L (.int v :: st) h) := rfl
theorem e147_30 : exq sa F N S rt cd147 P Q 30 L st h = (ald sa st h fun v s => P 31 L (.int v :: s) h) := rfl
theorem e147_31 : exq sa F N S rt cd147 P Q 31 L st h = (tI st fun v s => lvS L 2 (.int v) fun L' => P 32 L' s h) := rfl
theorem e147_32 : exq sa F N S rt cd147 P Q 32 L st h = (ldR L 0 fun v => P 33 L (v :: st) h) := rfl
theorem e147_33 : exq sa F N S rt cd147 P Q 33 L st h = (tR st fun a s => opt (hO h a 7) fun fs => opt (fs[0]?) fun v => P 36 L (v :: s) h) := rfl
theorem e147_36 : exq sa F N S rt cd147 P Q 36 L st h = (ldI L 1 fun v => P 37 L (.int v :: st) h) := rfl
theorem e147_37 : exq sa F N S rt cd147 P Q 37 L st h = (P 38 L (.int (Int32.ofInt (-1)) :: st) h) := rfl
theorem e147_38 : exq sa F N S rt cd147 P Q 38 L st h = (tI st fun v s => tI s fun i s => tR s fun a s => opt (hI h a) fun q => ix i q.1 fun k => P 39 L s (hS h a (.inl (0, q.1, .inl (upd q.2 k v))))) := rfl
theorem e147_39 : exq sa F N S rt cd147 P Q 39 L st h = (ldR L 0 fun v => P 40 L (v :: st) h) := rfl
theorem e147_40 : exq sa F N S rt cd147 P Q 40 L st h = (ldI L 2 fun v => P 41 L (.int v :: st) h) := rfl
theorem e147_41 : exq sa F N S rt cd147 P Q 41 L st h = (ivV F 139 2 7 st h fun r s h' => P 44 L (pu r s) h') := rfl
theorem e147_44 : exq sa F N S rt cd147 P Q 44 L st h = (tI st fun v s => s = [] ∧ (rt = some .int ∨ (rt = some .boolean ∧ (v = 0 ∨ v = 1))) ∧ Q (some (.int v)) h) := rfl
theorem e148_0 : exq sa F N S rt cd148 P Q 0 L st h = (ldI L 1 fun v => P 1 L (.int v :: st) h) := rfl
theorem e148_1 : exq sa F N S rt cd148 P Q 1 L st h = (P 2 L (.int (Int32.ofInt (0)) :: st) h) := rfl
theorem e148_2 : exq sa F N S rt cd148 P Q 2 L st h = (P 5 L (.int (Int32.ofInt (255)) :: st) h) := rfl
theorem e148_5 : exq sa F N S rt cd148 P Q 5 L st h = (ivS F 135 3 st h fun r s h' => P 8 L (pu r s) h') := rfl
theorem e148_8 : exq sa F N S rt cd148 P Q 8 L st h = (tI st fun a s => br (a = 0) (P 11 L s h) (P 14 L s h)) := rfl
theorem e148_11 : exq sa F N S rt cd148 P Q 11 L st h = (P 13 L (.int (Int32.ofInt (-1000001)) :: st) h) := rfl
theorem e148_13 : exq sa F N S rt cd148 P Q 13 L st h = (tI st fun v s => s = [] ∧ (rt = some .int ∨ (rt = some .boolean ∧ (v = 0 ∨ v = 1))) ∧ Q (some (.int v)) h) := rfl
theorem e148_14 : exq sa F N S rt cd148 P Q 14 L st h = (ldR L 0 fun v => P 15 L (v :: st) h) := rfl
theorem e148_15 : exq sa F N S rt cd148 P Q 15 L st h = (tR st fun a s => opt (hO h a 7) fun fs => opt (fs[4]?) fun v => P 18 L (v :: s) h) := rfl
theorem e148_18 : exq sa F N S rt cd148 P Q 18 L st h = (P 20 L (.int (Int32.ofInt (120)) :: st) h) := rfl
theorem e148_20 : exq sa F N S rt cd148 P Q 20 L st h = (tI st fun b s => tI s fun a s => br (a = b) (P 23 L s h) (P 26 L s h)) := rfl
theorem e148_23 : exq sa F N S rt cd148 P Q 23 L st h = (P 25 L (.int (Int32.ofInt (-1000003)) :: st) h) := rfl
theorem e148_25 : exq sa F N S rt cd148 P Q 25 L st h = (tI st fun v s => s = [] ∧ (rt = some .int ∨ (rt = some .boolean ∧ (v = 0 ∨ v = 1))) ∧ Q (some (.int v)) h) := rfl
theorem e148_26 : exq sa F N S rt cd148 P Q 26 L st h = (ldR L 0 fun v => P 27 L (v :: st) h) := rfl
theorem e148_27 : exq sa F N S rt cd148 P Q 27 L st h = (tR st fun a s => opt (hO h a 7) fun fs => opt (fs[5]?) fun v => P 30 L (v :: s) h) := rfl
theorem e148_30 : exq sa F N S rt cd148 P Q 30 L st h = (ldR L 0 fun v => P 31 L (v :: st) h) := rfl
theorem e148_31 : exq sa F N S rt cd148 P Q 31 L st h = (tR st fun a s => opt (hO h a 7) fun fs => opt (fs[4]?) fun v => P 34 L (v :: s) h) := rfl
theorem e148_34 : exq sa F N S rt cd148 P Q 34 L st h = (ldI L 1 fun v => P 35 L (.int v :: st) h) := rfl
theorem e148_35 : exq sa F N S rt cd148 P Q 35 L st h = (tI st fun v s => tI s fun i s => tR s fun a s => opt (hI h a) fun q => ix i q.1 fun k => P 36 L s (hS h a (.inl (0, q.1, .inl (upd q.2 k v))))) := rfl
theorem e148_36 : exq sa F N S rt cd148 P Q 36 L st h = (ldR L 0 fun v => P 37 L (v :: st) h) := rfl
theorem e148_37 : exq sa F N S rt cd148 P Q 37 L st h = (du1 st fun v s => P 38 L (v :: v :: s) h) := rfl
theorem e148_38 : exq sa F N S rt cd148 P Q 38 L st h = (tR st fun a s => opt (hO h a 7) fun fs => opt (fs[4]?) fun v => P 41 L (v :: s) h) := rfl
theorem e148_41 : exq sa F N S rt cd148 P Q 41 L st h = (P 42 L (.int (Int32.ofInt (1)) :: st) h) := rfl
theorem e148_42 : exq sa F N S rt cd148 P Q 42 L st h = (tI st fun b s => tI s fun a s => P 43 L (.int (a + b) :: s) h) := rfl
theorem e148_43 : exq sa F N S rt cd148 P Q 43 L st h = (pfd st h 7 4 0 fun s h' => P 46 L s h') := rfl
theorem e148_46 : exq sa F N S rt cd148 P Q 46 L st h = (ldR L 0 fun v => P 47 L (v :: st) h) := rfl
theorem e148_47 : exq sa F N S rt cd148 P Q 47 L st h = (tR st fun a s => opt (hO h a 7) fun fs => opt (fs[4]?) fun v => P 50 L (v :: s) h) := rfl
theorem e148_50 : exq sa F N S rt cd148 P Q 50 L st h = (tI st fun v s => s = [] ∧ (rt = some .int ∨ (rt = some .boolean ∧ (v = 0 ∨ v = 1))) ∧ Q (some (.int v)) h) := rfl
theorem e149_0 : exq sa F N S rt cd149 P Q 0 L st h = (ldI L 1 fun v => P 1 L (.int v :: st) h) := rfl
theorem e149_1 : exq sa F N S rt cd149 P Q 1 L st h = (ldR L 0 fun v => P 2 L (v :: st) h) := rfl
theorem e149_2 : exq sa F N S rt cd149 P Q 2 L st h = (tR st fun a s => opt (hO h a 7) fun fs => opt (fs[4]?) fun v => P 5 L (v :: s) h) := rfl
theorem e149_5 : exq sa F N S rt cd149 P Q 5 L st h = (tI st fun b s => tI s fun a s => br (b ≤ a) (P 17 L s h) (P 8 L s h)) := rfl
theorem e149_8 : exq sa F N S rt cd149 P Q 8 L st h = (ldR L 0 fun v => P 9 L (v :: st) h) := rfl
theorem e149_9 : exq sa F N S rt cd149 P Q 9 L st h = (tR st fun a s => opt (hO h a 7) fun fs => opt (fs[5]?) fun v => P 12 L (v :: s) h) := rfl
theorem e149_12 : exq sa F N S rt cd149 P Q 12 L st h = (ldI L 1 fun v => P 13 L (.int v :: st) h) := rfl
theorem e149_13 : exq sa F N S rt cd149 P Q 13 L st h = (ald sa st h fun v s => P 14 L (.int v :: s) h) := rfl
theorem e149_14 : exq sa F N S rt cd149 P Q 14 L st h = (P 18 L st h) := rfl
theorem e149_17 : exq sa F N S rt cd149 P Q 17 L st h = (P 18 L (.int (Int32.ofInt (0)) :: st) h) := rfl
theorem e149_18 : exq sa F N S rt cd149 P Q 18 L st h = (tI st fun v s => s = [] ∧ (rt = some .int ∨ (rt = some .boolean ∧ (v = 0 ∨ v = 1))) ∧ Q (some (.int v)) h) := rfl
theorem e150_0 : exq sa F N S rt cd150 P Q 0 L st h = (ldI L 0 fun v => P 1 L (.int v :: st) h) := rfl
theorem e150_1 : exq sa F N S rt cd150 P Q 1 L st h = (P 3 L (.int (Int32.ofInt (48)) :: st) h) := rfl
theorem e150_3 : exq sa F N S rt cd150 P Q 3 L st h = (P 5 L (.int (Int32.ofInt (57)) :: st) h) := rfl
theorem e150_5 : exq sa F N S rt cd150 P Q 5 L st h = (ivS F 135 3 st h fun r s h' => P 8 L (pu r s) h') := rfl
theorem e150_8 : exq sa F N S rt cd150 P Q 8 L st h = (tI st fun v s => s = [] ∧ (rt = some .int ∨ (rt = some .boolean ∧ (v = 0 ∨ v = 1))) ∧ Q (some (.int v)) h) := rfl
theorem e151_0 : exq sa F N S rt cd151 P Q 0 L st h = (ldR L 0 fun v => P 1 L (v :: st) h) := rfl
theorem e151_1 : exq sa F N S rt cd151 P Q 1 L st h = (ldR L 0 fun v => P 2 L (v :: st) h) := rfl
theorem e151_2 : exq sa F N S rt cd151 P Q 2 L st h = (tR st fun a s => opt (hO h a 7) fun fs => opt (fs[6]?) fun v => P 5 L (v :: s) h) := rfl
theorem e151_5 : exq sa F N S rt cd151 P Q 5 L st h = (pfd st h 7 9 0 fun s h' => P 8 L s h') := rfl
theorem e151_8 : exq sa F N S rt cd151 P Q 8 L st h = (ldR L 0 fun v => P 9 L (v :: st) h) := rfl
theorem e151_9 : exq sa F N S rt cd151 P Q 9 L st h = (ldR L 0 fun v => P 10 L (v :: st) h) := rfl
theorem e151_10 : exq sa F N S rt cd151 P Q 10 L st h = (tR st fun a s => opt (hO h a 7) fun fs => opt (fs[6]?) fun v => P 13 L (v :: s) h) := rfl
theorem e151_13 : exq sa F N S rt cd151 P Q 13 L st h = (ivV F 149 2 7 st h fun r s h' => P 16 L (pu r s) h') := rfl
theorem e151_16 : exq sa F N S rt cd151 P Q 16 L st h = (tI st fun v s => lvS L 1 (.int v) fun L' => P 17 L' s h) := rfl
theorem e151_17 : exq sa F N S rt cd151 P Q 17 L st h = (ldR L 0 fun v => P 18 L (v :: st) h) := rfl
theorem e151_18 : exq sa F N S rt cd151 P Q 18 L st h = (tR st fun a s => opt (hO h a 7) fun fs => opt (fs[6]?) fun v => P 21 L (v :: s) h) := rfl
theorem e151_21 : exq sa F N S rt cd151 P Q 21 L st h = (ldR L 0 fun v => P 22 L (v :: st) h) := rfl
theorem e151_22 : exq sa F N S rt cd151 P Q 22 L st h = (tR st fun a s => opt (hO h a 7) fun fs => opt (fs[4]?) fun v => P 25 L (v :: s) h) := rfl
theorem e151_25 : exq sa F N S rt cd151 P Q 25 L st h = (tI st fun b s => tI s fun a s => br (a = b) (P 28 L s h) (P 36 L s h)) := rfl
theorem e151_28 : exq sa F N S rt cd151 P Q 28 L st h = (ldR L 0 fun v => P 29 L (v :: st) h) := rfl
theorem e151_29 : exq sa F N S rt cd151 P Q 29 L st h = (P 30 L (.int (Int32.ofInt (-1)) :: st) h) := rfl
theorem e151_30 : exq sa F N S rt cd151 P Q 30 L st h = (pfd st h 7 7 0 fun s h' => P 33 L s h') := rfl
theorem e151_33 : exq sa F N S rt cd151 P Q 33 L st h = (P 182 L st h) := rfl
theorem e151_36 : exq sa F N S rt cd151 P Q 36 L st h = (ldI L 1 fun v => P 37 L (.int v :: st) h) := rfl
theorem e151_37 : exq sa F N S rt cd151 P Q 37 L st h = (ivS F 150 1 st h fun r s h' => P 40 L (pu r s) h') := rfl
theorem e151_40 : exq sa F N S rt cd151 P Q 40 L st h = (tI st fun a s => br (a = 0) (P 140 L s h) (P 43 L s h)) := rfl
theorem e151_43 : exq sa F N S rt cd151 P Q 43 L st h = (ldR L 0 fun v => P 44 L (v :: st) h) := rfl
theorem e151_44 : exq sa F N S rt cd151 P Q 44 L st h = (P 45 L (.int (Int32.ofInt (0)) :: st) h) := rfl
theorem e151_45 : exq sa F N S rt cd151 P Q 45 L st h = (pfd st h 7 8 0 fun s h' => P 48 L s h') := rfl
theorem e151_48 : exq sa F N S rt cd151 P Q 48 L st h = (ldR L 0 fun v => P 49 L (v :: st) h) := rfl
theorem e151_49 : exq sa F N S rt cd151 P Q 49 L st h = (ldR L 0 fun v => P 50 L (v :: st) h) := rfl
theorem e151_50 : exq sa F N S rt cd151 P Q 50 L st h = (tR st fun a s => opt (hO h a 7) fun fs => opt (fs[6]?) fun v => P 53 L (v :: s) h) := rfl
theorem e151_53 : exq sa F N S rt cd151 P Q 53 L st h = (ivV F 149 2 7 st h fun r s h' => P 56 L (pu r s) h') := rfl
theorem e151_56 : exq sa F N S rt cd151 P Q 56 L st h = (ivS F 150 1 st h fun r s h' => P 59 L (pu r s) h') := rfl
theorem e151_59 : exq sa F N S rt cd151 P Q 59 L st h = (tI st fun a s => br (a = 0) (P 114 L s h) (P 62 L s h)) := rfl
theorem e151_62 : exq sa F N S rt cd151 P Q 62 L st h = (ldR L 0 fun v => P 63 L (v :: st) h) := rfl
theorem e151_63 : exq sa F N S rt cd151 P Q 63 L st h = (ldR L 0 fun v => P 64 L (v :: st) h) := rfl
theorem e151_64 : exq sa F N S rt cd151 P Q 64 L st h = (tR st fun a s => opt (hO h a 7) fun fs => opt (fs[8]?) fun v => P 67 L (v :: s) h) := rfl
theorem e151_67 : exq sa F N S rt cd151 P Q 67 L st h = (P 69 L (.int (Int32.ofInt (99)) :: st) h) := rfl
theorem e151_69 : exq sa F N S rt cd151 P Q 69 L st h = (tI st fun b s => tI s fun a s => br (a ≤ b) (P 79 L s h) (P 72 L s h)) := rfl
theorem e151_72 : exq sa F N S rt cd151 P Q 72 L st h = (ldR L 0 fun v => P 73 L (v :: st) h) := rfl
theorem e151_73 : exq sa F N S rt cd151 P Q 73 L st h = (tR st fun a s => opt (hO h a 7) fun fs => opt (fs[8]?) fun v => P 76 L (v :: s) h) := rfl
theorem e151_76 : exq sa F N S rt cd151 P Q 76 L st h = (P 98 L st h) := rfl
theorem e151_79 : exq sa F N S rt cd151 P Q 79 L st h = (P 81 L (.int (Int32.ofInt (10)) :: st) h) := rfl
theorem e151_81 : exq sa F N S rt cd151 P Q 81 L st h = (ldR L 0 fun v => P 82 L (v :: st) h) := rfl
theorem e151_82 : exq sa F N S rt cd151 P Q 82 L st h = (tR st fun a s => opt (hO h a 7) fun fs => opt (fs[8]?) fun v => P 85 L (v :: s) h) := rfl
theorem e151_85 : exq sa F N S rt cd151 P Q 85 L st h = (tI st fun b s => tI s fun a s => P 86 L (.int (a * b) :: s) h) := rfl
theorem e151_86 : exq sa F N S rt cd151 P Q 86 L st h = (ldR L 0 fun v => P 87 L (v :: st) h) := rfl
theorem e151_87 : exq sa F N S rt cd151 P Q 87 L st h = (ldR L 0 fun v => P 88 L (v :: st) h) := rfl
theorem e151_88 : exq sa F N S rt cd151 P Q 88 L st h = (tR st fun a s => opt (hO h a 7) fun fs => opt (fs[6]?) fun v => P 91 L (v :: s) h) := rfl
theorem e151_91 : exq sa F N S rt cd151 P Q 91 L st h = (ivV F 149 2 7 st h fun r s h' => P 94 L (pu r s) h') := rfl
theorem e151_94 : exq sa F N S rt cd151 P Q 94 L st h = (tI st fun b s => tI s fun a s => P 95 L (.int (a + b) :: s) h) := rfl
theorem e151_95 : exq sa F N S rt cd151 P Q 95 L st h = (P 97 L (.int (Int32.ofInt (48)) :: st) h) := rfl
theorem e151_97 : exq sa F N S rt cd151 P Q 97 L st h = (tI st fun b s => tI s fun a s => P 98 L (.int (a - b) :: s) h) := rfl
theorem e151_98 : exq sa F N S rt cd151 P Q 98 L st h = (pfd st h 7 8 0 fun s h' => P 101 L s h') := rfl
theorem e151_101 : exq sa F N S rt cd151 P Q 101 L st h = (ldR L 0 fun v => P 102 L (v :: st) h) := rfl
theorem e151_102 : exq sa F N S rt cd151 P Q 102 L st h = (du1 st fun v s => P 103 L (v :: v :: s) h) := rfl
theorem e151_103 : exq sa F N S rt cd151 P Q 103 L st h = (tR st fun a s => opt (hO h a 7) fun fs => opt (fs[6]?) fun v => P 106 L (v :: s) h) := rfl
theorem e151_106 : exq sa F N S rt cd151 P Q 106 L st h = (P 107 L (.int (Int32.ofInt (1)) :: st) h) := rfl
theorem e151_107 : exq sa F N S rt cd151 P Q 107 L st h = (tI st fun b s => tI s fun a s => P 108 L (.int (a + b) :: s) h) := rfl
theorem e151_108 : exq sa F N S rt cd151 P Q 108 L st h = (pfd st h 7 6 0 fun s h' => P 111 L s h') := rfl
theorem e151_111 : exq sa F N S rt cd151 P Q 111 L st h = (P 48 L st h) := rfl
theorem e151_114 : exq sa F N S rt cd151 P Q 114 L st h = (ldR L 0 fun v => P 115 L (v :: st) h) := rfl
theorem e151_115 : exq sa F N S rt cd151 P Q 115 L st h = (ldR L 0 fun v => P 116 L (v :: st) h) := rfl
theorem e151_116 : exq sa F N S rt cd151 P Q 116 L st h = (tR st fun a s => opt (hO h a 7) fun fs => opt (fs[6]?) fun v => P 119 L (v :: s) h) := rfl
theorem e151_119 : exq sa F N S rt cd151 P Q 119 L st h = (ldR L 0 fun v => P 120 L (v :: st) h) := rfl
theorem e151_120 : exq sa F N S rt cd151 P Q 120 L st h = (tR st fun a s => opt (hO h a 7) fun fs => opt (fs[9]?) fun v => P 123 L (v :: s) h) := rfl
theorem e151_123 : exq sa F N S rt cd151 P Q 123 L st h = (tI st fun b s => tI s fun a s => P 124 L (.int (a - b) :: s) h) := rfl
theorem e151_124 : exq sa F N S rt cd151 P Q 124 L st h = (P 125 L (.int (Int32.ofInt (2)) :: st) h) := rfl
theorem e151_125 : exq sa F N S rt cd151 P Q 125 L st h = (tI st fun b s => tI s fun a s => br (a ≤ b) (P 132 L s h) (P 128 L s h)) := rfl
theorem e151_128 : exq sa F N S rt cd151 P Q 128 L st h = (P 129 L (.int (Int32.ofInt (0)) :: st) h) := rfl
theorem e151_129 : exq sa F N S rt cd151 P Q 129 L st h = (P 134 L st h) := rfl
theorem e151_132 : exq sa F N S rt cd151 P Q 132 L st h = (P 134 L (.int (Int32.ofInt (48)) :: st) h) := rfl
theorem e151_134 : exq sa F N S rt cd151 P Q 134 L st h = (pfd st h 7 7 0 fun s h' => P 137 L s h') := rfl
theorem e151_137 : exq sa F N S rt cd151 P Q 137 L st h = (P 182 L st h) := rfl
theorem e151_140 : exq sa F N S rt cd151 P Q 140 L st h = (ldR L 0 fun v => P 141 L (v :: st) h) := rfl
theorem e151_141 : exq sa F N S rt cd151 P Q 141 L st h = (du1 st fun v s => P 142 L (v :: v :: s) h) := rfl
theorem e151_142 : exq sa F N S rt cd151 P Q 142 L st h = (tR st fun a s => opt (hO h a 7) fun fs => opt (fs[6]?) fun v => P 145 L (v :: s) h) := rfl
theorem e151_145 : exq sa F N S rt cd151 P Q 145 L st h = (P 146 L (.int (Int32.ofInt (1)) :: st) h) := rfl
theorem e151_146 : exq sa F N S rt cd151 P Q 146 L st h = (tI st fun b s => tI s fun a s => P 147 L (.int (a + b) :: s) h) := rfl
theorem e151_147 : exq sa F N S rt cd151 P Q 147 L st h = (pfd st h 7 6 0 fun s h' => P 150 L s h') := rfl
theorem e151_150 : exq sa F N S rt cd151 P Q 150 L st h = (ldR L 0 fun v => P 151 L (v :: st) h) := rfl
theorem e151_151 : exq sa F N S rt cd151 P Q 151 L st h = (ldI L 1 fun v => P 152 L (.int v :: st) h) := rfl
theorem e151_152 : exq sa F N S rt cd151 P Q 152 L st h = (P 154 L (.int (Int32.ofInt (97)) :: st) h) := rfl
theorem e151_154 : exq sa F N S rt cd151 P Q 154 L st h = (P 156 L (.int (Int32.ofInt (122)) :: st) h) := rfl
theorem e151_156 : exq sa F N S rt cd151 P Q 156 L st h = (ivS F 135 3 st h fun r s h' => P 159 L (pu r s) h') := rfl
theorem e151_159 : exq sa F N S rt cd151 P Q 159 L st h = (tI st fun a s => br (a = 0) (P 162 L s h) (P 174 L s h)) := rfl
theorem e151_162 : exq sa F N S rt cd151 P Q 162 L st h = (ldI L 1 fun v => P 163 L (.int v :: st) h) := rfl
theorem e151_163 : exq sa F N S rt cd151 P Q 163 L st h = (P 165 L (.int (Int32.ofInt (44)) :: st) h) := rfl
theorem e151_165 : exq sa F N S rt cd151 P Q 165 L st h = (tI st fun b s => tI s fun a s => br (a = b) (P 174 L s h) (P 168 L s h)) := rfl
theorem e151_168 : exq sa F N S rt cd151 P Q 168 L st h = (ldI L 1 fun v => P 169 L (.int v :: st) h) := rfl
theorem e151_169 : exq sa F N S rt cd151 P Q 169 L st h = (P 171 L (.int (Int32.ofInt (59)) :: st) h) := rfl
theorem e151_171 : exq sa F N S rt cd151 P Q 171 L st h = (tI st fun b s => tI s fun a s => br (a = b) (P 174 L s h) (P 178 L s h)) := rfl
theorem e151_174 : exq sa F N S rt cd151 P Q 174 L st h = (ldI L 1 fun v => P 175 L (.int v :: st) h) := rfl
theorem e151_175 : exq sa F N S rt cd151 P Q 175 L st h = (P 179 L st h) := rfl
theorem e151_178 : exq sa F N S rt cd151 P Q 178 L st h = (P 179 L (.int (Int32.ofInt (0)) :: st) h) := rfl
theorem e151_179 : exq sa F N S rt cd151 P Q 179 L st h = (pfd st h 7 7 0 fun s h' => P 182 L s h') := rfl
theorem e151_182 : exq sa F N S rt cd151 P Q 182 L st h = (st = [] ∧ rt = none ∧ Q none h) := rfl
theorem e152_0 : exq sa F N S rt cd152 P Q 0 L st h = (ldR L 0 fun v => P 1 L (v :: st) h) := rfl
theorem e152_1 : exq sa F N S rt cd152 P Q 1 L st h = (ldI L 1 fun v => P 2 L (.int v :: st) h) := rfl
theorem e152_2 : exq sa F N S rt cd152 P Q 2 L st h = (pfd st h 7 10 0 fun s h' => P 5 L s h') := rfl
theorem e152_5 : exq sa F N S rt cd152 P Q 5 L st h = (P 6 L (.int (Int32.ofInt (0)) :: st) h) := rfl
theorem e152_6 : exq sa F N S rt cd152 P Q 6 L st h = (tI st fun v s => s = [] ∧ (rt = some .int ∨ (rt = some .boolean ∧ (v = 0 ∨ v = 1))) ∧ Q (some (.int v)) h) := rfl
theorem e153_0 : exq sa F N S rt cd153 P Q 0 L st h = (ldR L 0 fun v => P 1 L (v :: st) h) := rfl
theorem e153_1 : exq sa F N S rt cd153 P Q 1 L st h = (ivV F 151 1 7 st h fun r s h' => P 4 L (pu r s) h') := rfl
theorem e153_4 : exq sa F N S rt cd153 P Q 4 L st h = (ldR L 0 fun v => P 5 L (v :: st) h) := rfl
theorem e153_5 : exq sa F N S rt cd153 P Q 5 L st h = (tR st fun a s => opt (hO h a 7) fun fs => opt (fs[7]?) fun v => P 8 L (v :: s) h) := rfl
theorem e153_8 : exq sa F N S rt cd153 P Q 8 L st h = (P 10 L (.int (Int32.ofInt (48)) :: st) h) := rfl
theorem e153_10 : exq sa F N S rt cd153 P Q 10 L st h = (tI st fun b s => tI s fun a s => br (a = b) (P 19 L s h) (P 13 L s h)) := rfl
theorem e153_13 : exq sa F N S rt cd153 P Q 13 L st h = (ldR L 0 fun v => P 14 L (v :: st) h) := rfl
theorem e153_14 : exq sa F N S rt cd153 P Q 14 L st h = (P 15 L (.int (Int32.ofInt (1)) :: st) h) := rfl
theorem e153_15 : exq sa F N S rt cd153 P Q 15 L st h = (ivV F 152 2 7 st h fun r s h' => P 18 L (pu r s) h') := rfl
theorem e153_18 : exq sa F N S rt cd153 P Q 18 L st h = (tI st fun v s => s = [] ∧ (rt = some .int ∨ (rt = some .boolean ∧ (v = 0 ∨ v = 1))) ∧ Q (some (.int v)) h) := rfl
theorem e153_19 : exq sa F N S rt cd153 P Q 19 L st h = (ldR L 1 fun v => P 20 L (v :: st) h) := rfl
theorem e153_20 : exq sa F N S rt cd153 P Q 20 L st h = (ldI L 2 fun v => P 21 L (.int v :: st) h) := rfl
theorem e153_21 : exq sa F N S rt cd153 P Q 21 L st h = (ldR L 0 fun v => P 22 L (v :: st) h) := rfl
theorem e153_22 : exq sa F N S rt cd153 P Q 22 L st h = (tR st fun a s => opt (hO h a 7) fun fs => opt (fs[8]?) fun v => P 25 L (v :: s) h) := rfl
theorem e153_25 : exq sa F N S rt cd153 P Q 25 L st h = (tI st fun v s => tI s fun i s => tR s fun a s => opt (hI h a) fun q => ix i q.1 fun k => P 26 L s (hS h a (.inl (0, q.1, .inl (upd q.2 k v))))) := rfl
theorem e153_26 : exq sa F N S rt cd153 P Q 26 L st h = (ldR L 0 fun v => P 27 L (v :: st) h) := rfl
theorem e153_27 : exq sa F N S rt cd153 P Q 27 L st h = (tR st fun a s => opt (hO h a 7) fun fs => opt (fs[8]?) fun v => P 30 L (v :: s) h) := rfl
theorem e153_30 : exq sa F N S rt cd153 P Q 30 L st h = (ldI L 3 fun v => P 31 L (.int v :: st) h) := rfl
theorem e153_31 : exq sa F N S rt cd153 P Q 31 L st h = (ldI L 4 fun v => P 33 L (.int v :: st) h) := rfl
theorem e153_33 : exq sa F N S rt cd153 P Q 33 L st h = (ivS F 135 3 st h fun r s h' => P 36 L (pu r s) h') := rfl
theorem e153_36 : exq sa F N S rt cd153 P Q 36 L st h = (tI st fun a s => br (a = 0) (P 39 L s h) (P 47 L s h)) := rfl
theorem e153_39 : exq sa F N S rt cd153 P Q 39 L st h = (ldR L 0 fun v => P 40 L (v :: st) h) := rfl
theorem e153_40 : exq sa F N S rt cd153 P Q 40 L st h = (P 41 L (.int (Int32.ofInt (2)) :: st) h) := rfl
theorem e153_41 : exq sa F N S rt cd153 P Q 41 L st h = (ivV F 152 2 7 st h fun r s h' => P 44 L (pu r s) h') := rfl
theorem e153_44 : exq sa F N S rt cd153 P Q 44 L st h = (tI st fun a s => br (a = 0) (P 51 L s h) (P 47 L s h)) := rfl
theorem e153_47 : exq sa F N S rt cd153 P Q 47 L st h = (P 48 L (.int (Int32.ofInt (1)) :: st) h) := rfl
theorem e153_48 : exq sa F N S rt cd153 P Q 48 L st h = (P 52 L st h) := rfl
theorem e153_51 : exq sa F N S rt cd153 P Q 51 L st h = (P 52 L (.int (Int32.ofInt (0)) :: st) h) := rfl
theorem e153_52 : exq sa F N S rt cd153 P Q 52 L st h = (tI st fun v s => s = [] ∧ (rt = some .int ∨ (rt = some .boolean ∧ (v = 0 ∨ v = 1))) ∧ Q (some (.int v)) h) := rfl
theorem e154_0 : exq sa F N S rt cd154 P Q 0 L st h = (ldR L 0 fun v => P 1 L (v :: st) h) := rfl
theorem e154_1 : exq sa F N S rt cd154 P Q 1 L st h = (ivV F 151 1 7 st h fun r s h' => P 4 L (pu r s) h') := rfl
theorem e154_4 : exq sa F N S rt cd154 P Q 4 L st h = (ldR L 0 fun v => P 5 L (v :: st) h) := rfl
theorem e154_5 : exq sa F N S rt cd154 P Q 5 L st h = (tR st fun a s => opt (hO h a 7) fun fs => opt (fs[7]?) fun v => P 8 L (v :: s) h) := rfl
theorem e154_8 : exq sa F N S rt cd154 P Q 8 L st h = (ldI L 1 fun v => P 9 L (.int v :: st) h) := rfl
theorem e154_9 : exq sa F N S rt cd154 P Q 9 L st h = (tI st fun b s => tI s fun a s => br (a = b) (P 20 L s h) (P 12 L s h)) := rfl
theorem e154_12 : exq sa F N S rt cd154 P Q 12 L st h = (ldR L 0 fun v => P 13 L (v :: st) h) := rfl
theorem e154_13 : exq sa F N S rt cd154 P Q 13 L st h = (P 14 L (.int (Int32.ofInt (1)) :: st) h) := rfl
theorem e154_14 : exq sa F N S rt cd154 P Q 14 L st h = (ivV F 152 2 7 st h fun r s h' => P 17 L (pu r s) h') := rfl
theorem e154_17 : exq sa F N S rt cd154 P Q 17 L st h = (tI st fun a s => br (a = 0) (P 24 L s h) (P 20 L s h)) := rfl
theorem e154_20 : exq sa F N S rt cd154 P Q 20 L st h = (P 21 L (.int (Int32.ofInt (1)) :: st) h) := rfl
theorem e154_21 : exq sa F N S rt cd154 P Q 21 L st h = (P 25 L st h) := rfl
theorem e154_24 : exq sa F N S rt cd154 P Q 24 L st h = (P 25 L (.int (Int32.ofInt (0)) :: st) h) := rfl
theorem e154_25 : exq sa F N S rt cd154 P Q 25 L st h = (tI st fun v s => s = [] ∧ (rt = some .int ∨ (rt = some .boolean ∧ (v = 0 ∨ v = 1))) ∧ Q (some (.int v)) h) := rfl
theorem e155_0 : exq sa F N S rt cd155 P Q 0 L st h = (ldR L 0 fun v => P 1 L (v :: st) h) := rfl
theorem e155_1 : exq sa F N S rt cd155 P Q 1 L st h = (tR st fun a s => opt (hO h a 7) fun fs => opt (fs[7]?) fun v => P 4 L (v :: s) h) := rfl
theorem e155_4 : exq sa F N S rt cd155 P Q 4 L st h = (P 6 L (.int (Int32.ofInt (99)) :: st) h) := rfl
theorem e155_6 : exq sa F N S rt cd155 P Q 6 L st h = (tI st fun b s => tI s fun a s => br (a = b) (P 9 L s h) (P 65 L s h)) := rfl
theorem e155_9 : exq sa F N S rt cd155 P Q 9 L st h = (ldR L 0 fun v => P 10 L (v :: st) h) := rfl
theorem e155_10 : exq sa F N S rt cd155 P Q 10 L st h = (ldR L 0 fun v => P 11 L (v :: st) h) := rfl
theorem e155_11 : exq sa F N S rt cd155 P Q 11 L st h = (tR st fun a s => opt (hO h a 7) fun fs => opt (fs[12]?) fun v => P 14 L (v :: s) h) := rfl
theorem e155_14 : exq sa F N S rt cd155 P Q 14 L st h = (P 15 L (.int (Int32.ofInt (2)) :: st) h) := rfl
theorem e155_15 : exq sa F N S rt cd155 P Q 15 L st h = (P 16 L (.int (Int32.ofInt (2)) :: st) h) := rfl
theorem e155_16 : exq sa F N S rt cd155 P Q 16 L st h = (P 18 L (.int (Int32.ofInt (9)) :: st) h) := rfl
theorem e155_18 : exq sa F N S rt cd155 P Q 18 L st h = (ivV F 153 5 7 st h fun r s h' => P 21 L (pu r s) h') := rfl
theorem e155_21 : exq sa F N S rt cd155 P Q 21 L st h = (tI st fun a s => br (a = 0) (P 61 L s h) (P 24 L s h)) := rfl
theorem e155_24 : exq sa F N S rt cd155 P Q 24 L st h = (ldR L 0 fun v => P 25 L (v :: st) h) := rfl
theorem e155_25 : exq sa F N S rt cd155 P Q 25 L st h = (P 27 L (.int (Int32.ofInt (44)) :: st) h) := rfl
theorem e155_27 : exq sa F N S rt cd155 P Q 27 L st h = (ivV F 154 2 7 st h fun r s h' => P 30 L (pu r s) h') := rfl
theorem e155_30 : exq sa F N S rt cd155 P Q 30 L st h = (tI st fun a s => br (a = 0) (P 61 L s h) (P 33 L s h)) := rfl
theorem e155_33 : exq sa F N S rt cd155 P Q 33 L st h = (ldR L 0 fun v => P 34 L (v :: st) h) := rfl
theorem e155_34 : exq sa F N S rt cd155 P Q 34 L st h = (ldR L 0 fun v => P 35 L (v :: st) h) := rfl
theorem e155_35 : exq sa F N S rt cd155 P Q 35 L st h = (tR st fun a s => opt (hO h a 7) fun fs => opt (fs[12]?) fun v => P 38 L (v :: s) h) := rfl
theorem e155_38 : exq sa F N S rt cd155 P Q 38 L st h = (P 39 L (.int (Int32.ofInt (3)) :: st) h) := rfl
theorem e155_39 : exq sa F N S rt cd155 P Q 39 L st h = (P 40 L (.int (Int32.ofInt (1)) :: st) h) := rfl
theorem e155_40 : exq sa F N S rt cd155 P Q 40 L st h = (P 42 L (.int (Int32.ofInt (30)) :: st) h) := rfl
theorem e155_42 : exq sa F N S rt cd155 P Q 42 L st h = (ivV F 153 5 7 st h fun r s h' => P 45 L (pu r s) h') := rfl
theorem e155_45 : exq sa F N S rt cd155 P Q 45 L st h = (tI st fun a s => br (a = 0) (P 61 L s h) (P 48 L s h)) := rfl
theorem e155_48 : exq sa F N S rt cd155 P Q 48 L st h = (ldR L 0 fun v => P 49 L (v :: st) h) := rfl
theorem e155_49 : exq sa F N S rt cd155 P Q 49 L st h = (P 51 L (.int (Int32.ofInt (59)) :: st) h) := rfl
theorem e155_51 : exq sa F N S rt cd155 P Q 51 L st h = (ivV F 154 2 7 st h fun r s h' => P 54 L (pu r s) h') := rfl
theorem e155_54 : exq sa F N S rt cd155 P Q 54 L st h = (tI st fun a s => br (a = 0) (P 61 L s h) (P 57 L s h)) := rfl
theorem e155_57 : exq sa F N S rt cd155 P Q 57 L st h = (P 58 L (.int (Int32.ofInt (1)) :: st) h) := rfl
theorem e155_58 : exq sa F N S rt cd155 P Q 58 L st h = (P 70 L st h) := rfl
theorem e155_61 : exq sa F N S rt cd155 P Q 61 L st h = (P 62 L (.int (Int32.ofInt (0)) :: st) h) := rfl
theorem e155_62 : exq sa F N S rt cd155 P Q 62 L st h = (P 70 L st h) := rfl
theorem e155_65 : exq sa F N S rt cd155 P Q 65 L st h = (ldR L 0 fun v => P 66 L (v :: st) h) := rfl
theorem e155_66 : exq sa F N S rt cd155 P Q 66 L st h = (P 67 L (.int (Int32.ofInt (1)) :: st) h) := rfl
theorem e155_67 : exq sa F N S rt cd155 P Q 67 L st h = (ivV F 152 2 7 st h fun r s h' => P 70 L (pu r s) h') := rfl
theorem e155_70 : exq sa F N S rt cd155 P Q 70 L st h = (tI st fun v s => s = [] ∧ (rt = some .int ∨ (rt = some .boolean ∧ (v = 0 ∨ v = 1))) ∧ Q (some (.int v)) h) := rfl
theorem e156_0 : exq sa F N S rt cd156 P Q 0 L st h = (ldR L 0 fun v => P 1 L (v :: st) h) := rfl
theorem e156_1 : exq sa F N S rt cd156 P Q 1 L st h = (tR st fun a s => opt (hO h a 7) fun fs => opt (fs[12]?) fun v => P 4 L (v :: s) h) := rfl
theorem e156_4 : exq sa F N S rt cd156 P Q 4 L st h = (P 5 L (.int (Int32.ofInt (1)) :: st) h) := rfl
theorem e156_5 : exq sa F N S rt cd156 P Q 5 L st h = (ald sa st h fun v s => P 6 L (.int v :: s) h) := rfl
theorem e156_6 : exq sa F N S rt cd156 P Q 6 L st h = (P 8 L (.int (Int32.ofInt (6)) :: st) h) := rfl
theorem e156_8 : exq sa F N S rt cd156 P Q 8 L st h = (tI st fun b s => tI s fun a s => br (a = b) (P 11 L s h) (P 17 L s h)) := rfl
theorem e156_11 : exq sa F N S rt cd156 P Q 11 L st h = (ldR L 0 fun v => P 12 L (v :: st) h) := rfl
theorem e156_12 : exq sa F N S rt cd156 P Q 12 L st h = (P 13 L (.int (Int32.ofInt (3)) :: st) h) := rfl
theorem e156_13 : exq sa F N S rt cd156 P Q 13 L st h = (ivV F 152 2 7 st h fun r s h' => P 16 L (pu r s) h') := rfl
theorem e156_16 : exq sa F N S rt cd156 P Q 16 L st h = (tI st fun v s => s = [] ∧ (rt = some .int ∨ (rt = some .boolean ∧ (v = 0 ∨ v = 1))) ∧ Q (some (.int v)) h) := rfl
theorem e156_17 : exq sa F N S rt cd156 P Q 17 L st h = (ldR L 0 fun v => P 18 L (v :: st) h) := rfl
theorem e156_18 : exq sa F N S rt cd156 P Q 18 L st h = (tR st fun a s => opt (hO h a 7) fun fs => opt (fs[12]?) fun v => P 21 L (v :: s) h) := rfl
theorem e156_21 : exq sa F N S rt cd156 P Q 21 L st h = (P 22 L (.int (Int32.ofInt (1)) :: st) h) := rfl
theorem e156_22 : exq sa F N S rt cd156 P Q 22 L st h = (ald sa st h fun v s => P 23 L (.int v :: s) h) := rfl
theorem e156_23 : exq sa F N S rt cd156 P Q 23 L st h = (tI st fun v s => lvS L 1 (.int v) fun L' => P 24 L' s h) := rfl
theorem e156_24 : exq sa F N S rt cd156 P Q 24 L st h = (ldR L 0 fun v => P 25 L (v :: st) h) := rfl
theorem e156_25 : exq sa F N S rt cd156 P Q 25 L st h = (tR st fun a s => opt (hO h a 7) fun fs => opt (fs[12]?) fun v => P 28 L (v :: s) h) := rfl
theorem e156_28 : exq sa F N S rt cd156 P Q 28 L st h = (P 29 L (.int (Int32.ofInt (1)) :: st) h) := rfl
theorem e156_29 : exq sa F N S rt cd156 P Q 29 L st h = (du2 st fun v v2 s => P 30 L (v :: v2 :: v :: v2 :: s) h) := rfl
theorem e156_30 : exq sa F N S rt cd156 P Q 30 L st h = (ald sa st h fun v s => P 31 L (.int v :: s) h) := rfl
theorem e156_31 : exq sa F N S rt cd156 P Q 31 L st h = (P 32 L (.int (Int32.ofInt (1)) :: st) h) := rfl
theorem e156_32 : exq sa F N S rt cd156 P Q 32 L st h = (tI st fun b s => tI s fun a s => P 33 L (.int (a + b) :: s) h) := rfl
theorem e156_33 : exq sa F N S rt cd156 P Q 33 L st h = (tI st fun v s => tI s fun i s => tR s fun a s => opt (hI h a) fun q => ix i q.1 fun k => P 34 L s (hS h a (.inl (0, q.1, .inl (upd q.2 k v))))) := rfl
theorem e156_34 : exq sa F N S rt cd156 P Q 34 L st h = (ldR L 0 fun v => P 35 L (v :: st) h) := rfl
theorem e156_35 : exq sa F N S rt cd156 P Q 35 L st h = (ldR L 0 fun v => P 36 L (v :: st) h) := rfl
theorem e156_36 : exq sa F N S rt cd156 P Q 36 L st h = (tR st fun a s => opt (hO h a 7) fun fs => opt (fs[13]?) fun v => P 39 L (v :: s) h) := rfl
theorem e156_39 : exq sa F N S rt cd156 P Q 39 L st h = (P 40 L (.int (Int32.ofInt (2)) :: st) h) := rfl
theorem e156_40 : exq sa F N S rt cd156 P Q 40 L st h = (ldI L 1 fun v => P 41 L (.int v :: st) h) := rfl
theorem e156_41 : exq sa F N S rt cd156 P Q 41 L st h = (tI st fun b s => tI s fun a s => P 42 L (.int (a + b) :: s) h) := rfl
theorem e156_42 : exq sa F N S rt cd156 P Q 42 L st h = (P 43 L (.int (Int32.ofInt (0)) :: st) h) := rfl
theorem e156_43 : exq sa F N S rt cd156 P Q 43 L st h = (ldR L 0 fun v => P 44 L (v :: st) h) := rfl
theorem e156_44 : exq sa F N S rt cd156 P Q 44 L st h = (tR st fun a s => opt (hO h a 7) fun fs => opt (fs[12]?) fun v => P 47 L (v :: s) h) := rfl
theorem e156_47 : exq sa F N S rt cd156 P Q 47 L st h = (P 48 L (.int (Int32.ofInt (2)) :: st) h) := rfl
theorem e156_48 : exq sa F N S rt cd156 P Q 48 L st h = (ald sa st h fun v s => P 49 L (.int v :: s) h) := rfl
theorem e156_49 : exq sa F N S rt cd156 P Q 49 L st h = (P 50 L (.int (Int32.ofInt (1)) :: st) h) := rfl
theorem e156_50 : exq sa F N S rt cd156 P Q 50 L st h = (tI st fun b s => tI s fun a s => P 51 L (.int (a - b) :: s) h) := rfl
theorem e156_51 : exq sa F N S rt cd156 P Q 51 L st h = (ivV F 153 5 7 st h fun r s h' => P 54 L (pu r s) h') := rfl
theorem e156_54 : exq sa F N S rt cd156 P Q 54 L st h = (tI st fun a s => br (a = 0) (P 123 L s h) (P 57 L s h)) := rfl
theorem e156_57 : exq sa F N S rt cd156 P Q 57 L st h = (ldR L 0 fun v => P 58 L (v :: st) h) := rfl
theorem e156_58 : exq sa F N S rt cd156 P Q 58 L st h = (P 60 L (.int (Int32.ofInt (44)) :: st) h) := rfl
theorem e156_60 : exq sa F N S rt cd156 P Q 60 L st h = (ivV F 154 2 7 st h fun r s h' => P 63 L (pu r s) h') := rfl
theorem e156_63 : exq sa F N S rt cd156 P Q 63 L st h = (tI st fun a s => br (a = 0) (P 123 L s h) (P 66 L s h)) := rfl
theorem e156_66 : exq sa F N S rt cd156 P Q 66 L st h = (ldR L 0 fun v => P 67 L (v :: st) h) := rfl
theorem e156_67 : exq sa F N S rt cd156 P Q 67 L st h = (ldR L 0 fun v => P 68 L (v :: st) h) := rfl
theorem e156_68 : exq sa F N S rt cd156 P Q 68 L st h = (tR st fun a s => opt (hO h a 7) fun fs => opt (fs[12]?) fun v => P 71 L (v :: s) h) := rfl
theorem e156_71 : exq sa F N S rt cd156 P Q 71 L st h = (P 73 L (.int (Int32.ofInt (9)) :: st) h) := rfl
theorem e156_73 : exq sa F N S rt cd156 P Q 73 L st h = (ldI L 1 fun v => P 74 L (.int v :: st) h) := rfl
theorem e156_74 : exq sa F N S rt cd156 P Q 74 L st h = (tI st fun b s => tI s fun a s => P 75 L (.int (a + b) :: s) h) := rfl
theorem e156_75 : exq sa F N S rt cd156 P Q 75 L st h = (P 76 L (.int (Int32.ofInt (1)) :: st) h) := rfl
theorem e156_76 : exq sa F N S rt cd156 P Q 76 L st h = (P 78 L (.int (Int32.ofInt (9)) :: st) h) := rfl
theorem e156_78 : exq sa F N S rt cd156 P Q 78 L st h = (ivV F 153 5 7 st h fun r s h' => P 81 L (pu r s) h') := rfl
theorem e156_81 : exq sa F N S rt cd156 P Q 81 L st h = (tI st fun a s => br (a = 0) (P 123 L s h) (P 84 L s h)) := rfl
theorem e156_84 : exq sa F N S rt cd156 P Q 84 L st h = (ldR L 0 fun v => P 85 L (v :: st) h) := rfl
theorem e156_85 : exq sa F N S rt cd156 P Q 85 L st h = (P 87 L (.int (Int32.ofInt (44)) :: st) h) := rfl
theorem e156_87 : exq sa F N S rt cd156 P Q 87 L st h = (ivV F 154 2 7 st h fun r s h' => P 90 L (pu r s) h') := rfl
theorem e156_90 : exq sa F N S rt cd156 P Q 90 L st h = (tI st fun a s => br (a = 0) (P 123 L s h) (P 93 L s h)) := rfl
theorem e156_93 : exq sa F N S rt cd156 P Q 93 L st h = (ldR L 0 fun v => P 94 L (v :: st) h) := rfl
theorem e156_94 : exq sa F N S rt cd156 P Q 94 L st h = (ldR L 0 fun v => P 95 L (v :: st) h) := rfl
theorem e156_95 : exq sa F N S rt cd156 P Q 95 L st h = (tR st fun a s => opt (hO h a 7) fun fs => opt (fs[13]?) fun v => P 98 L (v :: s) h) := rfl
theorem e156_98 : exq sa F N S rt cd156 P Q 98 L st h = (P 100 L (.int (Int32.ofInt (8)) :: st) h) := rfl
theorem e156_100 : exq sa F N S rt cd156 P Q 100 L st h = (ldI L 1 fun v => P 101 L (.int v :: st) h) := rfl
theorem e156_101 : exq sa F N S rt cd156 P Q 101 L st h = (tI st fun b s => tI s fun a s => P 102 L (.int (a + b) :: s) h) := rfl
theorem e156_102 : exq sa F N S rt cd156 P Q 102 L st h = (P 103 L (.int (Int32.ofInt (0)) :: st) h) := rfl
theorem e156_103 : exq sa F N S rt cd156 P Q 103 L st h = (P 104 L (.int (Int32.ofInt (2)) :: st) h) := rfl
theorem e156_104 : exq sa F N S rt cd156 P Q 104 L st h = (ivV F 153 5 7 st h fun r s h' => P 107 L (pu r s) h') := rfl
theorem e156_107 : exq sa F N S rt cd156 P Q 107 L st h = (tI st fun a s => br (a = 0) (P 123 L s h) (P 110 L s h)) := rfl
theorem e156_110 : exq sa F N S rt cd156 P Q 110 L st h = (ldR L 0 fun v => P 111 L (v :: st) h) := rfl
theorem e156_111 : exq sa F N S rt cd156 P Q 111 L st h = (P 113 L (.int (Int32.ofInt (59)) :: st) h) := rfl
theorem e156_113 : exq sa F N S rt cd156 P Q 113 L st h = (ivV F 154 2 7 st h fun r s h' => P 116 L (pu r s) h') := rfl
theorem e156_116 : exq sa F N S rt cd156 P Q 116 L st h = (tI st fun a s => br (a = 0) (P 123 L s h) (P 119 L s h)) := rfl
theorem e156_119 : exq sa F N S rt cd156 P Q 119 L st h = (P 120 L (.int (Int32.ofInt (1)) :: st) h) := rfl
theorem e156_120 : exq sa F N S rt cd156 P Q 120 L st h = (P 124 L st h) := rfl
theorem e156_123 : exq sa F N S rt cd156 P Q 123 L st h = (P 124 L (.int (Int32.ofInt (0)) :: st) h) := rfl
theorem e156_124 : exq sa F N S rt cd156 P Q 124 L st h = (tI st fun v s => s = [] ∧ (rt = some .int ∨ (rt = some .boolean ∧ (v = 0 ∨ v = 1))) ∧ Q (some (.int v)) h) := rfl
theorem e157_0 : exq sa F N S rt cd157 P Q 0 L st h = (ldI L 0 fun v => P 1 L (.int v :: st) h) := rfl
theorem e157_1 : exq sa F N S rt cd157 P Q 1 L st h = (ex1 sa F N S rt P Q 1 L st h (.lookupswitch 61 #[(98, 59), (107, 55), (109, 51), (112, 53), (116, 57)]) 0 0 0 0) := rfl
theorem e157_52 : exq sa F N S rt cd157 P Q 52 L st h = (P 53 L (.int (Int32.ofInt (1)) :: st) h) := rfl
theorem e157_53 : exq sa F N S rt cd157 P Q 53 L st h = (tI st fun v s => s = [] ∧ (rt = some .int ∨ (rt = some .boolean ∧ (v = 0 ∨ v = 1))) ∧ Q (some (.int v)) h) := rfl
theorem e157_54 : exq sa F N S rt cd157 P Q 54 L st h = (P 55 L (.int (Int32.ofInt (2)) :: st) h) := rfl
theorem e157_55 : exq sa F N S rt cd157 P Q 55 L st h = (tI st fun v s => s = [] ∧ (rt = some .int ∨ (rt = some .boolean ∧ (v = 0 ∨ v = 1))) ∧ Q (some (.int v)) h) := rfl
theorem e157_56 : exq sa F N S rt cd157 P Q 56 L st h = (P 57 L (.int (Int32.ofInt (3)) :: st) h) := rfl
theorem e157_57 : exq sa F N S rt cd157 P Q 57 L st h = (tI st fun v s => s = [] ∧ (rt = some .int ∨ (rt = some .boolean ∧ (v = 0 ∨ v = 1))) ∧ Q (some (.int v)) h) := rfl
theorem e157_58 : exq sa F N S rt cd157 P Q 58 L st h = (P 59 L (.int (Int32.ofInt (4)) :: st) h) := rfl
theorem e157_59 : exq sa F N S rt cd157 P Q 59 L st h = (tI st fun v s => s = [] ∧ (rt = some .int ∨ (rt = some .boolean ∧ (v = 0 ∨ v = 1))) ∧ Q (some (.int v)) h) := rfl
theorem e157_60 : exq sa F N S rt cd157 P Q 60 L st h = (P 61 L (.int (Int32.ofInt (5)) :: st) h) := rfl
theorem e157_61 : exq sa F N S rt cd157 P Q 61 L st h = (tI st fun v s => s = [] ∧ (rt = some .int ∨ (rt = some .boolean ∧ (v = 0 ∨ v = 1))) ∧ Q (some (.int v)) h) := rfl
theorem e157_62 : exq sa F N S rt cd157 P Q 62 L st h = (P 63 L (.int (Int32.ofInt (0)) :: st) h) := rfl
theorem e157_63 : exq sa F N S rt cd157 P Q 63 L st h = (tI st fun v s => s = [] ∧ (rt = some .int ∨ (rt = some .boolean ∧ (v = 0 ∨ v = 1))) ∧ Q (some (.int v)) h) := rfl
end EL
