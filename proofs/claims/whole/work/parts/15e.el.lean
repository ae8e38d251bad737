/-! what each instruction does -/
section EL
variable {sa : aS} {F : aF} {N S : Nat} {rt : Option FieldType} {P : aK} {Q : aQ} {L : aL} {st : List Value} {h : aH}
theorem e194_0 : exq sa F N S rt cd194 P Q 0 L st h = (ldR L 0 fun v => P 1 L (v :: st) h) := rfl
theorem e194_1 : exq sa F N S rt cd194 P Q 1 L st h = (ldI L 1 fun v => P 2 L (.int v :: st) h) := rfl
theorem e194_2 : exq sa F N S rt cd194 P Q 2 L st h = (ivV F 163 2 7 st h fun r s h' => P 5 L (pu r s) h') := rfl
theorem e194_5 : exq sa F N S rt cd194 P Q 5 L st h = (tI st fun a s => br (a = 0) (P 8 L s h) (P 11 L s h)) := rfl
theorem e194_8 : exq sa F N S rt cd194 P Q 8 L st h = (P 10 L (.int (Int32.ofInt (-1000001)) :: st) h) := rfl
theorem e194_10 : exq sa F N S rt cd194 P Q 10 L st h = (tI st fun v s => s = [] ∧ (rt = some .int ∨ (rt = some .boolean ∧ (v = 0 ∨ v = 1))) ∧ Q (some (.int v)) h) := rfl
theorem e194_11 : exq sa F N S rt cd194 P Q 11 L st h = (ldR L 0 fun v => P 12 L (v :: st) h) := rfl
theorem e194_12 : exq sa F N S rt cd194 P Q 12 L st h = (ivV F 189 1 7 st h fun r s h' => P 15 L (pu r s) h') := rfl
theorem e194_15 : exq sa F N S rt cd194 P Q 15 L st h = (P 16 L (.int (Int32.ofInt (0)) :: st) h) := rfl
theorem e194_16 : exq sa F N S rt cd194 P Q 16 L st h = (tI st fun v s => lvS L 2 (.int v) fun L' => P 17 L' s h) := rfl
theorem e194_17 : exq sa F N S rt cd194 P Q 17 L st h = (ldI L 2 fun v => P 18 L (.int v :: st) h) := rfl
theorem e194_18 : exq sa F N S rt cd194 P Q 18 L st h = (P 20 L (.int (Int32.ofInt (60)) :: st) h) := rfl
theorem e194_20 : exq sa F N S rt cd194 P Q 20 L st h = (tI st fun b s => tI s fun a s => br (b < a) (P 52 L s h) (P 23 L s h)) := rfl
theorem e194_23 : exq sa F N S rt cd194 P Q 23 L st h = (ldR L 0 fun v => P 24 L (v :: st) h) := rfl
theorem e194_24 : exq sa F N S rt cd194 P Q 24 L st h = (tR st fun a s => opt (hO h a 7) fun fs => opt (fs[18]?) fun v => P 27 L (v :: s) h) := rfl
theorem e194_27 : exq sa F N S rt cd194 P Q 27 L st h = (P 28 L (.int (Int32.ofInt (1)) :: st) h) := rfl
theorem e194_28 : exq sa F N S rt cd194 P Q 28 L st h = (ald sa st h fun v s => P 29 L (.int v :: s) h) := rfl
theorem e194_29 : exq sa F N S rt cd194 P Q 29 L st h = (ldI L 1 fun v => P 30 L (.int v :: st) h) := rfl
theorem e194_30 : exq sa F N S rt cd194 P Q 30 L st h = (ivS F 136 2 st h fun r s h' => P 33 L (pu r s) h') := rfl
theorem e194_33 : exq sa F N S rt cd194 P Q 33 L st h = (tI st fun a s => br (a = 0) (P 38 L s h) (P 36 L s h)) := rfl
theorem e194_36 : exq sa F N S rt cd194 P Q 36 L st h = (ldI L 2 fun v => P 37 L (.int v :: st) h) := rfl
theorem e194_37 : exq sa F N S rt cd194 P Q 37 L st h = (tI st fun v s => s = [] ∧ (rt = some .int ∨ (rt = some .boolean ∧ (v = 0 ∨ v = 1))) ∧ Q (some (.int v)) h) := rfl
theorem e194_38 : exq sa F N S rt cd194 P Q 38 L st h = (ldR L 0 fun v => P 39 L (v :: st) h) := rfl
theorem e194_39 : exq sa F N S rt cd194 P Q 39 L st h = (ldR L 0 fun v => P 40 L (v :: st) h) := rfl
theorem e194_40 : exq sa F N S rt cd194 P Q 40 L st h = (tR st fun a s => opt (hO h a 7) fun fs => opt (fs[18]?) fun v => P 43 L (v :: s) h) := rfl
theorem e194_43 : exq sa F N S rt cd194 P Q 43 L st h = (ivV F 173 2 7 st h fun r s h' => P 46 L (pu r s) h') := rfl
theorem e194_46 : exq sa F N S rt cd194 P Q 46 L st h = (ldI L 2 fun v => lvS L 2 (.int (v + Int32.ofInt (1))) fun L' => P 49 L' st h) := rfl
theorem e194_49 : exq sa F N S rt cd194 P Q 49 L st h = (P 17 L st h) := rfl
theorem e194_52 : exq sa F N S rt cd194 P Q 52 L st h = (P 54 L (.int (Int32.ofInt (-1000000)) :: st) h) := rfl
theorem e194_54 : exq sa F N S rt cd194 P Q 54 L st h = (tI st fun v s => s = [] ∧ (rt = some .int ∨ (rt = some .boolean ∧ (v = 0 ∨ v = 1))) ∧ Q (some (.int v)) h) := rfl
theorem e195_0 : exq sa F N S rt cd195 P Q 0 L st h = (ldR L 0 fun v => P 1 L (v :: st) h) := rfl
theorem e195_1 : exq sa F N S rt cd195 P Q 1 L st h = (ldI L 1 fun v => P 2 L (.int v :: st) h) := rfl
theorem e195_2 : exq sa F N S rt cd195 P Q 2 L st h = (ivV F 162 2 7 st h fun r s h' => P 5 L (pu r s) h') := rfl
theorem e195_5 : exq sa F N S rt cd195 P Q 5 L st h = (tI st fun a s => br (a = 0) (P 8 L s h) (P 11 L s h)) := rfl
theorem e195_8 : exq sa F N S rt cd195 P Q 8 L st h = (P 10 L (.int (Int32.ofInt (-1000001)) :: st) h) := rfl
theorem e195_10 : exq sa F N S rt cd195 P Q 10 L st h = (tI st fun v s => s = [] ∧ (rt = some .int ∨ (rt = some .boolean ∧ (v = 0 ∨ v = 1))) ∧ Q (some (.int v)) h) := rfl
theorem e195_11 : exq sa F N S rt cd195 P Q 11 L st h = (ldR L 0 fun v => P 12 L (v :: st) h) := rfl
theorem e195_12 : exq sa F N S rt cd195 P Q 12 L st h = (ivV F 189 1 7 st h fun r s h' => P 15 L (pu r s) h') := rfl
theorem e195_15 : exq sa F N S rt cd195 P Q 15 L st h = (P 16 L (.int (Int32.ofInt (0)) :: st) h) := rfl
theorem e195_16 : exq sa F N S rt cd195 P Q 16 L st h = (tI st fun v s => lvS L 2 (.int v) fun L' => P 17 L' s h) := rfl
theorem e195_17 : exq sa F N S rt cd195 P Q 17 L st h = (ldI L 2 fun v => P 18 L (.int v :: st) h) := rfl
theorem e195_18 : exq sa F N S rt cd195 P Q 18 L st h = (P 20 L (.int (Int32.ofInt (60)) :: st) h) := rfl
theorem e195_20 : exq sa F N S rt cd195 P Q 20 L st h = (tI st fun b s => tI s fun a s => br (b < a) (P 52 L s h) (P 23 L s h)) := rfl
theorem e195_23 : exq sa F N S rt cd195 P Q 23 L st h = (ldR L 0 fun v => P 24 L (v :: st) h) := rfl
theorem e195_24 : exq sa F N S rt cd195 P Q 24 L st h = (tR st fun a s => opt (hO h a 7) fun fs => opt (fs[18]?) fun v => P 27 L (v :: s) h) := rfl
theorem e195_27 : exq sa F N S rt cd195 P Q 27 L st h = (P 29 L (.int (Int32.ofInt (24)) :: st) h) := rfl
theorem e195_29 : exq sa F N S rt cd195 P Q 29 L st h = (ldI L 1 fun v => P 30 L (.int v :: st) h) := rfl
theorem e195_30 : exq sa F N S rt cd195 P Q 30 L st h = (tI st fun b s => tI s fun a s => P 31 L (.int (a + b) :: s) h) := rfl
theorem e195_31 : exq sa F N S rt cd195 P Q 31 L st h = (ald sa st h fun v s => P 32 L (.int v :: s) h) := rfl
theorem e195_32 : exq sa F N S rt cd195 P Q 32 L st h = (P 33 L (.int (Int32.ofInt (2)) :: st) h) := rfl
theorem e195_33 : exq sa F N S rt cd195 P Q 33 L st h = (tI st fun b s => tI s fun a s => br (a = b) (P 36 L s h) (P 38 L s h)) := rfl
theorem e195_36 : exq sa F N S rt cd195 P Q 36 L st h = (ldI L 2 fun v => P 37 L (.int v :: st) h) := rfl
theorem e195_37 : exq sa F N S rt cd195 P Q 37 L st h = (tI st fun v s => s = [] ∧ (rt = some .int ∨ (rt = some .boolean ∧ (v = 0 ∨ v = 1))) ∧ Q (some (.int v)) h) := rfl
theorem e195_38 : exq sa F N S rt cd195 P Q 38 L st h = (ldR L 0 fun v => P 39 L (v :: st) h) := rfl
theorem e195_39 : exq sa F N S rt cd195 P Q 39 L st h = (ldR L 0 fun v => P 40 L (v :: st) h) := rfl
theorem e195_40 : exq sa F N S rt cd195 P Q 40 L st h = (tR st fun a s => opt (hO h a 7) fun fs => opt (fs[18]?) fun v => P 43 L (v :: s) h) := rfl
theorem e195_43 : exq sa F N S rt cd195 P Q 43 L st h = (ivV F 173 2 7 st h fun r s h' => P 46 L (pu r s) h') := rfl
theorem e195_46 : exq sa F N S rt cd195 P Q 46 L st h = (ldI L 2 fun v => lvS L 2 (.int (v + Int32.ofInt (1))) fun L' => P 49 L' st h) := rfl
theorem e195_49 : exq sa F N S rt cd195 P Q 49 L st h = (P 17 L st h) := rfl
theorem e195_52 : exq sa F N S rt cd195 P Q 52 L st h = (P 54 L (.int (Int32.ofInt (-1000000)) :: st) h) := rfl
theorem e195_54 : exq sa F N S rt cd195 P Q 54 L st h = (tI st fun v s => s = [] ∧ (rt = some .int ∨ (rt = some .boolean ∧ (v = 0 ∨ v = 1))) ∧ Q (some (.int v)) h) := rfl
theorem e196_0 : exq sa F N S rt cd196 P Q 0 L st h = (ldR L 0 fun v => P 1 L (v :: st) h) := rfl
theorem e196_1 : exq sa F N S rt cd196 P Q 1 L st h = (ldI L 1 fun v => P 2 L (.int v :: st) h) := rfl
theorem e196_2 : exq sa F N S rt cd196 P Q 2 L st h = (P 3 L (.int (Int32.ofInt (0)) :: st) h) := rfl
theorem e196_3 : exq sa F N S rt cd196 P Q 3 L st h = (P 4 L (.int (Int32.ofInt (1)) :: st) h) := rfl
theorem e196_4 : exq sa F N S rt cd196 P Q 4 L st h = (ivS F 135 3 st h fun r s h' => P 7 L (pu r s) h') := rfl
theorem e196_7 : exq sa F N S rt cd196 P Q 7 L st h = (ivV F 180 2 7 st h fun r s h' => P 10 L (pu r s) h') := rfl
theorem e196_10 : exq sa F N S rt cd196 P Q 10 L st h = (tI st fun v s => lvS L 2 (.int v) fun L' => P 11 L' s h) := rfl
theorem e196_11 : exq sa F N S rt cd196 P Q 11 L st h = (ldI L 2 fun v => P 12 L (.int v :: st) h) := rfl
theorem e196_12 : exq sa F N S rt cd196 P Q 12 L st h = (tI st fun a s => br (0 ≤ a) (P 17 L s h) (P 15 L s h)) := rfl
theorem e196_15 : exq sa F N S rt cd196 P Q 15 L st h = (ldI L 2 fun v => P 16 L (.int v :: st) h) := rfl
theorem e196_16 : exq sa F N S rt cd196 P Q 16 L st h = (tI st fun v s => s = [] ∧ (rt = some .int ∨ (rt = some .boolean ∧ (v = 0 ∨ v = 1))) ∧ Q (some (.int v)) h) := rfl
theorem e196_17 : exq sa F N S rt cd196 P Q 17 L st h = (ldR L 0 fun v => P 18 L (v :: st) h) := rfl
theorem e196_18 : exq sa F N S rt cd196 P Q 18 L st h = (ivV F 189 1 7 st h fun r s h' => P 21 L (pu r s) h') := rfl
theorem e196_21 : exq sa F N S rt cd196 P Q 21 L st h = (P 22 L (.int (Int32.ofInt (1)) :: st) h) := rfl
theorem e196_22 : exq sa F N S rt cd196 P Q 22 L st h = (tI st fun v s => lvS L 3 (.int v) fun L' => P 23 L' s h) := rfl
theorem e196_23 : exq sa F N S rt cd196 P Q 23 L st h = (ldI L 3 fun v => P 24 L (.int v :: st) h) := rfl
theorem e196_24 : exq sa F N S rt cd196 P Q 24 L st h = (P 26 L (.int (Int32.ofInt (60)) :: st) h) := rfl
theorem e196_26 : exq sa F N S rt cd196 P Q 26 L st h = (tI st fun b s => tI s fun a s => br (b < a) (P 86 L s h) (P 29 L s h)) := rfl
theorem e196_29 : exq sa F N S rt cd196 P Q 29 L st h = (ldR L 0 fun v => P 30 L (v :: st) h) := rfl
theorem e196_30 : exq sa F N S rt cd196 P Q 30 L st h = (ldR L 0 fun v => P 31 L (v :: st) h) := rfl
theorem e196_31 : exq sa F N S rt cd196 P Q 31 L st h = (tR st fun a s => opt (hO h a 7) fun fs => opt (fs[18]?) fun v => P 34 L (v :: s) h) := rfl
theorem e196_34 : exq sa F N S rt cd196 P Q 34 L st h = (ivV F 173 2 7 st h fun r s h' => P 37 L (pu r s) h') := rfl
theorem e196_37 : exq sa F N S rt cd196 P Q 37 L st h = (ldR L 0 fun v => P 38 L (v :: st) h) := rfl
theorem e196_38 : exq sa F N S rt cd196 P Q 38 L st h = (tR st fun a s => opt (hO h a 7) fun fs => opt (fs[18]?) fun v => P 41 L (v :: s) h) := rfl
theorem e196_41 : exq sa F N S rt cd196 P Q 41 L st h = (P 42 L (.int (Int32.ofInt (1)) :: st) h) := rfl
theorem e196_42 : exq sa F N S rt cd196 P Q 42 L st h = (ald sa st h fun v s => P 43 L (.int v :: s) h) := rfl
theorem e196_43 : exq sa F N S rt cd196 P Q 43 L st h = (ldR L 0 fun v => P 44 L (v :: st) h) := rfl
theorem e196_44 : exq sa F N S rt cd196 P Q 44 L st h = (tR st fun a s => opt (hO h a 7) fun fs => opt (fs[17]?) fun v => P 47 L (v :: s) h) := rfl
theorem e196_47 : exq sa F N S rt cd196 P Q 47 L st h = (P 48 L (.int (Int32.ofInt (1)) :: st) h) := rfl
theorem e196_48 : exq sa F N S rt cd196 P Q 48 L st h = (ald sa st h fun v s => P 49 L (.int v :: s) h) := rfl
theorem e196_49 : exq sa F N S rt cd196 P Q 49 L st h = (P 50 L (.int (Int32.ofInt (-1)) :: st) h) := rfl
theorem e196_50 : exq sa F N S rt cd196 P Q 50 L st h = (tI st fun b s => tI s fun a s => P 51 L (.int (a ^^^ b) :: s) h) := rfl
theorem e196_51 : exq sa F N S rt cd196 P Q 51 L st h = (tI st fun b s => tI s fun a s => P 52 L (.int (a &&& b) :: s) h) := rfl
theorem e196_52 : exq sa F N S rt cd196 P Q 52 L st h = (tI st fun v s => lvS L 4 (.int v) fun L' => P 54 L' s h) := rfl
theorem e196_54 : exq sa F N S rt cd196 P Q 54 L st h = (ldI L 4 fun v => P 56 L (.int v :: st) h) := rfl
theorem e196_56 : exq sa F N S rt cd196 P Q 56 L st h = (tI st fun a s => br (a = 0) (P 80 L s h) (P 59 L s h)) := rfl
theorem e196_59 : exq sa F N S rt cd196 P Q 59 L st h = (ldI L 1 fun v => P 60 L (.int v :: st) h) := rfl
theorem e196_60 : exq sa F N S rt cd196 P Q 60 L st h = (P 61 L (.int (Int32.ofInt (1)) :: st) h) := rfl
theorem e196_61 : exq sa F N S rt cd196 P Q 61 L st h = (tI st fun b s => tI s fun a s => br (a = b) (P 64 L s h) (P 68 L s h)) := rfl
theorem e196_64 : exq sa F N S rt cd196 P Q 64 L st h = (ldI L 3 fun v => P 65 L (.int v :: st) h) := rfl
theorem e196_65 : exq sa F N S rt cd196 P Q 65 L st h = (P 79 L st h) := rfl
theorem e196_68 : exq sa F N S rt cd196 P Q 68 L st h = (ldI L 4 fun v => P 70 L (.int v :: st) h) := rfl
theorem e196_70 : exq sa F N S rt cd196 P Q 70 L st h = (ldI L 4 fun v => P 72 L (.int v :: st) h) := rfl
theorem e196_72 : exq sa F N S rt cd196 P Q 72 L st h = (tI st fun a s => P 73 L (.int (-a) :: s) h) := rfl
theorem e196_73 : exq sa F N S rt cd196 P Q 73 L st h = (tI st fun b s => tI s fun a s => P 74 L (.int (a &&& b) :: s) h) := rfl
theorem e196_74 : exq sa F N S rt cd196 P Q 74 L st h = (P 75 L (.int (Int32.ofInt (1)) :: st) h) := rfl
theorem e196_75 : exq sa F N S rt cd196 P Q 75 L st h = (tI st fun b s => tI s fun a s => P 76 L (.int (a - b) :: s) h) := rfl
theorem e196_76 : exq sa F N S rt cd196 P Q 76 L st h = (ivS F 137 1 st h fun r s h' => P 79 L (pu r s) h') := rfl
theorem e196_79 : exq sa F N S rt cd196 P Q 79 L st h = (tI st fun v s => s = [] ∧ (rt = some .int ∨ (rt = some .boolean ∧ (v = 0 ∨ v = 1))) ∧ Q (some (.int v)) h) := rfl
theorem e196_80 : exq sa F N S rt cd196 P Q 80 L st h = (ldI L 3 fun v => lvS L 3 (.int (v + Int32.ofInt (1))) fun L' => P 83 L' st h) := rfl
theorem e196_83 : exq sa F N S rt cd196 P Q 83 L st h = (P 23 L st h) := rfl
theorem e196_86 : exq sa F N S rt cd196 P Q 86 L st h = (P 88 L (.int (Int32.ofInt (-1000000)) :: st) h) := rfl
theorem e196_88 : exq sa F N S rt cd196 P Q 88 L st h = (tI st fun v s => s = [] ∧ (rt = some .int ∨ (rt = some .boolean ∧ (v = 0 ∨ v = 1))) ∧ Q (some (.int v)) h) := rfl
theorem e197_0 : exq sa F N S rt cd197 P Q 0 L st h = (ldR L 0 fun v => P 1 L (v :: st) h) := rfl
theorem e197_1 : exq sa F N S rt cd197 P Q 1 L st h = (ldI L 1 fun v => P 2 L (.int v :: st) h) := rfl
theorem e197_2 : exq sa F N S rt cd197 P Q 2 L st h = (P 3 L (.int (Int32.ofInt (1)) :: st) h) := rfl
theorem e197_3 : exq sa F N S rt cd197 P Q 3 L st h = (P 5 L (.int (Int32.ofInt (60)) :: st) h) := rfl
theorem e197_5 : exq sa F N S rt cd197 P Q 5 L st h = (ivS F 135 3 st h fun r s h' => P 8 L (pu r s) h') := rfl
theorem e197_8 : exq sa F N S rt cd197 P Q 8 L st h = (tI st fun a s => br (a = 0) (P 24 L s h) (P 11 L s h)) := rfl
theorem e197_11 : exq sa F N S rt cd197 P Q 11 L st h = (ldI L 2 fun v => P 12 L (.int v :: st) h) := rfl
theorem e197_12 : exq sa F N S rt cd197 P Q 12 L st h = (P 13 L (.int (Int32.ofInt (0)) :: st) h) := rfl
theorem e197_13 : exq sa F N S rt cd197 P Q 13 L st h = (P 14 L (.int (Int32.ofInt (1)) :: st) h) := rfl
theorem e197_14 : exq sa F N S rt cd197 P Q 14 L st h = (ivS F 135 3 st h fun r s h' => P 17 L (pu r s) h') := rfl
theorem e197_17 : exq sa F N S rt cd197 P Q 17 L st h = (tI st fun a s => br (a = 0) (P 24 L s h) (P 20 L s h)) := rfl
theorem e197_20 : exq sa F N S rt cd197 P Q 20 L st h = (P 21 L (.int (Int32.ofInt (1)) :: st) h) := rfl
theorem e197_21 : exq sa F N S rt cd197 P Q 21 L st h = (P 25 L st h) := rfl
theorem e197_24 : exq sa F N S rt cd197 P Q 24 L st h = (P 25 L (.int (Int32.ofInt (0)) :: st) h) := rfl
theorem e197_25 : exq sa F N S rt cd197 P Q 25 L st h = (ivV F 180 2 7 st h fun r s h' => P 28 L (pu r s) h') := rfl
theorem e197_28 : exq sa F N S rt cd197 P Q 28 L st h = (tI st fun v s => lvS L 3 (.int v) fun L' => P 29 L' s h) := rfl
theorem e197_29 : exq sa F N S rt cd197 P Q 29 L st h = (ldI L 3 fun v => P 30 L (.int v :: st) h) := rfl
theorem e197_30 : exq sa F N S rt cd197 P Q 30 L st h = (tI st fun a s => br (0 ≤ a) (P 35 L s h) (P 33 L s h)) := rfl
theorem e197_33 : exq sa F N S rt cd197 P Q 33 L st h = (ldI L 3 fun v => P 34 L (.int v :: st) h) := rfl
theorem e197_34 : exq sa F N S rt cd197 P Q 34 L st h = (tI st fun v s => s = [] ∧ (rt = some .int ∨ (rt = some .boolean ∧ (v = 0 ∨ v = 1))) ∧ Q (some (.int v)) h) := rfl
theorem e197_35 : exq sa F N S rt cd197 P Q 35 L st h = (ldR L 0 fun v => P 36 L (v :: st) h) := rfl
theorem e197_36 : exq sa F N S rt cd197 P Q 36 L st h = (ldR L 0 fun v => P 37 L (v :: st) h) := rfl
theorem e197_37 : exq sa F N S rt cd197 P Q 37 L st h = (tR st fun a s => opt (hO h a 7) fun fs => opt (fs[17]?) fun v => P 40 L (v :: s) h) := rfl
theorem e197_40 : exq sa F N S rt cd197 P Q 40 L st h = (P 41 L (.int (Int32.ofInt (0)) :: st) h) := rfl
theorem e197_41 : exq sa F N S rt cd197 P Q 41 L st h = (ivV F 175 3 7 st h fun r s h' => P 44 L (pu r s) h') := rfl
theorem e197_44 : exq sa F N S rt cd197 P Q 44 L st h = (tI st fun v s => lvS L 4 (.int v) fun L' => P 46 L' s h) := rfl
theorem e197_46 : exq sa F N S rt cd197 P Q 46 L st h = (P 47 L (.int (Int32.ofInt (0)) :: st) h) := rfl
theorem e197_47 : exq sa F N S rt cd197 P Q 47 L st h = (tI st fun v s => lvS L 5 (.int v) fun L' => P 49 L' s h) := rfl
theorem e197_49 : exq sa F N S rt cd197 P Q 49 L st h = (P 50 L (.int (Int32.ofInt (-1)) :: st) h) := rfl
theorem e197_50 : exq sa F N S rt cd197 P Q 50 L st h = (tI st fun v s => lvS L 6 (.int v) fun L' => P 52 L' s h) := rfl
theorem e197_52 : exq sa F N S rt cd197 P Q 52 L st h = (P 53 L (.int (Int32.ofInt (0)) :: st) h) := rfl
theorem e197_53 : exq sa F N S rt cd197 P Q 53 L st h = (tI st fun v s => lvS L 7 (.int v) fun L' => P 55 L' s h) := rfl
theorem e197_55 : exq sa F N S rt cd197 P Q 55 L st h = (ldI L 7 fun v => P 57 L (.int v :: st) h) := rfl
theorem e197_57 : exq sa F N S rt cd197 P Q 57 L st h = (ldI L 4 fun v => P 59 L (.int v :: st) h) := rfl
theorem e197_59 : exq sa F N S rt cd197 P Q 59 L st h = (tI st fun b s => tI s fun a s => br (b < a) (P 201 L s h) (P 62 L s h)) := rfl
theorem e197_62 : exq sa F N S rt cd197 P Q 62 L st h = (ldI L 7 fun v => P 64 L (.int v :: st) h) := rfl
theorem e197_64 : exq sa F N S rt cd197 P Q 64 L st h = (ldI L 4 fun v => P 66 L (.int v :: st) h) := rfl
theorem e197_66 : exq sa F N S rt cd197 P Q 66 L st h = (P 67 L (.int (Int32.ofInt (-1)) :: st) h) := rfl
theorem e197_67 : exq sa F N S rt cd197 P Q 67 L st h = (tI st fun b s => tI s fun a s => P 68 L (.int (a ^^^ b) :: s) h) := rfl
theorem e197_68 : exq sa F N S rt cd197 P Q 68 L st h = (tI st fun b s => tI s fun a s => P 69 L (.int (a &&& b) :: s) h) := rfl
theorem e197_69 : exq sa F N S rt cd197 P Q 69 L st h = (tI st fun a s => br (a = 0) (P 72 L s h) (P 195 L s h)) := rfl
theorem e197_72 : exq sa F N S rt cd197 P Q 72 L st h = (ldR L 0 fun v => P 73 L (v :: st) h) := rfl
theorem e197_73 : exq sa F N S rt cd197 P Q 73 L st h = (ivV F 189 1 7 st h fun r s h' => P 76 L (pu r s) h') := rfl
theorem e197_76 : exq sa F N S rt cd197 P Q 76 L st h = (P 77 L (.int (Int32.ofInt (0)) :: st) h) := rfl
theorem e197_77 : exq sa F N S rt cd197 P Q 77 L st h = (tI st fun v s => lvS L 8 (.int v) fun L' => P 79 L' s h) := rfl
theorem e197_79 : exq sa F N S rt cd197 P Q 79 L st h = (ldI L 8 fun v => P 81 L (.int v :: st) h) := rfl
theorem e197_81 : exq sa F N S rt cd197 P Q 81 L st h = (ldR L 0 fun v => P 82 L (v :: st) h) := rfl
theorem e197_82 : exq sa F N S rt cd197 P Q 82 L st h = (tR st fun a s => opt (hO h a 7) fun fs => opt (fs[16]?) fun v => P 85 L (v :: s) h) := rfl
theorem e197_85 : exq sa F N S rt cd197 P Q 85 L st h = (P 86 L (.int (Int32.ofInt (0)) :: st) h) := rfl
theorem e197_86 : exq sa F N S rt cd197 P Q 86 L st h = (ald sa st h fun v s => P 87 L (.int v :: s) h) := rfl
theorem e197_87 : exq sa F N S rt cd197 P Q 87 L st h = (tI st fun b s => tI s fun a s => br (b ≤ a) (P 116 L s h) (P 90 L s h)) := rfl
theorem e197_90 : exq sa F N S rt cd197 P Q 90 L st h = (ldI L 7 fun v => P 92 L (.int v :: st) h) := rfl
theorem e197_92 : exq sa F N S rt cd197 P Q 92 L st h = (ldI L 8 fun v => P 94 L (.int v :: st) h) := rfl
theorem e197_94 : exq sa F N S rt cd197 P Q 94 L st h = (ivS F 136 2 st h fun r s h' => P 97 L (pu r s) h') := rfl
theorem e197_97 : exq sa F N S rt cd197 P Q 97 L st h = (tI st fun a s => br (a = 0) (P 110 L s h) (P 100 L s h)) := rfl
theorem e197_100 : exq sa F N S rt cd197 P Q 100 L st h = (ldR L 0 fun v => P 101 L (v :: st) h) := rfl
theorem e197_101 : exq sa F N S rt cd197 P Q 101 L st h = (ldR L 0 fun v => P 102 L (v :: st) h) := rfl
theorem e197_102 : exq sa F N S rt cd197 P Q 102 L st h = (tR st fun a s => opt (hO h a 7) fun fs => opt (fs[18]?) fun v => P 105 L (v :: s) h) := rfl
theorem e197_105 : exq sa F N S rt cd197 P Q 105 L st h = (ldI L 8 fun v => P 107 L (.int v :: st) h) := rfl
theorem e197_107 : exq sa F N S rt cd197 P Q 107 L st h = (ivV F 176 3 7 st h fun r s h' => P 110 L (pu r s) h') := rfl
theorem e197_110 : exq sa F N S rt cd197 P Q 110 L st h = (ldI L 8 fun v => lvS L 8 (.int (v + Int32.ofInt (1))) fun L' => P 113 L' st h) := rfl
theorem e197_113 : exq sa F N S rt cd197 P Q 113 L st h = (P 79 L st h) := rfl
theorem e197_116 : exq sa F N S rt cd197 P Q 116 L st h = (ldR L 0 fun v => P 117 L (v :: st) h) := rfl
theorem e197_117 : exq sa F N S rt cd197 P Q 117 L st h = (ldI L 1 fun v => P 118 L (.int v :: st) h) := rfl
theorem e197_118 : exq sa F N S rt cd197 P Q 118 L st h = (ivV F 190 2 7 st h fun r s h' => P 121 L (pu r s) h') := rfl
theorem e197_121 : exq sa F N S rt cd197 P Q 121 L st h = (ldR L 0 fun v => P 122 L (v :: st) h) := rfl
theorem e197_122 : exq sa F N S rt cd197 P Q 122 L st h = (ldR L 0 fun v => P 123 L (v :: st) h) := rfl
theorem e197_123 : exq sa F N S rt cd197 P Q 123 L st h = (tR st fun a s => opt (hO h a 7) fun fs => opt (fs[18]?) fun v => P 126 L (v :: s) h) := rfl
theorem e197_126 : exq sa F N S rt cd197 P Q 126 L st h = (P 127 L (.int (Int32.ofInt (1)) :: st) h) := rfl
theorem e197_127 : exq sa F N S rt cd197 P Q 127 L st h = (ald sa st h fun v s => P 128 L (.int v :: s) h) := rfl
theorem e197_128 : exq sa F N S rt cd197 P Q 128 L st h = (ivV F 174 2 7 st h fun r s h' => P 131 L (pu r s) h') := rfl
theorem e197_131 : exq sa F N S rt cd197 P Q 131 L st h = (tI st fun v s => lvS L 8 (.int v) fun L' => P 133 L' s h) := rfl
theorem e197_133 : exq sa F N S rt cd197 P Q 133 L st h = (ldI L 8 fun v => P 135 L (.int v :: st) h) := rfl
theorem e197_135 : exq sa F N S rt cd197 P Q 135 L st h = (ldI L 6 fun v => P 137 L (.int v :: st) h) := rfl
theorem e197_137 : exq sa F N S rt cd197 P Q 137 L st h = (tI st fun b s => tI s fun a s => br (b < a) (P 160 L s h) (P 140 L s h)) := rfl
theorem e197_140 : exq sa F N S rt cd197 P Q 140 L st h = (ldI L 8 fun v => P 142 L (.int v :: st) h) := rfl
theorem e197_142 : exq sa F N S rt cd197 P Q 142 L st h = (ldI L 6 fun v => P 144 L (.int v :: st) h) := rfl
theorem e197_144 : exq sa F N S rt cd197 P Q 144 L st h = (tI st fun b s => tI s fun a s => br (a = b) (P 147 L s h) (P 164 L s h)) := rfl
theorem e197_147 : exq sa F N S rt cd197 P Q 147 L st h = (ldI L 7 fun v => P 149 L (.int v :: st) h) := rfl
theorem e197_149 : exq sa F N S rt cd197 P Q 149 L st h = (ivS F 137 1 st h fun r s h' => P 152 L (pu r s) h') := rfl
theorem e197_152 : exq sa F N S rt cd197 P Q 152 L st h = (ldI L 5 fun v => P 154 L (.int v :: st) h) := rfl
theorem e197_154 : exq sa F N S rt cd197 P Q 154 L st h = (ivS F 137 1 st h fun r s h' => P 157 L (pu r s) h') := rfl
theorem e197_157 : exq sa F N S rt cd197 P Q 157 L st h = (tI st fun b s => tI s fun a s => br (b ≤ a) (P 164 L s h) (P 160 L s h)) := rfl
theorem e197_160 : exq sa F N S rt cd197 P Q 160 L st h = (P 161 L (.int (Int32.ofInt (1)) :: st) h) := rfl
theorem e197_161 : exq sa F N S rt cd197 P Q 161 L st h = (P 165 L st h) := rfl
theorem e197_164 : exq sa F N S rt cd197 P Q 164 L st h = (P 165 L (.int (Int32.ofInt (0)) :: st) h) := rfl
theorem e197_165 : exq sa F N S rt cd197 P Q 165 L st h = (tI st fun v s => lvS L 9 (.int v) fun L' => P 167 L' s h) := rfl
theorem e197_167 : exq sa F N S rt cd197 P Q 167 L st h = (ldI L 9 fun v => P 169 L (.int v :: st) h) := rfl
theorem e197_169 : exq sa F N S rt cd197 P Q 169 L st h = (tI st fun a s => br (a = 0) (P 177 L s h) (P 172 L s h)) := rfl
theorem e197_172 : exq sa F N S rt cd197 P Q 172 L st h = (ldI L 7 fun v => P 174 L (.int v :: st) h) := rfl
theorem e197_174 : exq sa F N S rt cd197 P Q 174 L st h = (P 179 L st h) := rfl
theorem e197_177 : exq sa F N S rt cd197 P Q 177 L st h = (ldI L 5 fun v => P 179 L (.int v :: st) h) := rfl
theorem e197_179 : exq sa F N S rt cd197 P Q 179 L st h = (tI st fun v s => lvS L 5 (.int v) fun L' => P 181 L' s h) := rfl
theorem e197_181 : exq sa F N S rt cd197 P Q 181 L st h = (ldI L 9 fun v => P 183 L (.int v :: st) h) := rfl
theorem e197_183 : exq sa F N S rt cd197 P Q 183 L st h = (tI st fun a s => br (a = 0) (P 191 L s h) (P 186 L s h)) := rfl
theorem e197_186 : exq sa F N S rt cd197 P Q 186 L st h = (ldI L 8 fun v => P 188 L (.int v :: st) h) := rfl
theorem e197_188 : exq sa F N S rt cd197 P Q 188 L st h = (P 193 L st h) := rfl
theorem e197_191 : exq sa F N S rt cd197 P Q 191 L st h = (ldI L 6 fun v => P 193 L (.int v :: st) h) := rfl
theorem e197_193 : exq sa F N S rt cd197 P Q 193 L st h = (tI st fun v s => lvS L 6 (.int v) fun L' => P 195 L' s h) := rfl
theorem e197_195 : exq sa F N S rt cd197 P Q 195 L st h = (ldI L 7 fun v => lvS L 7 (.int (v + Int32.ofInt (1))) fun L' => P 198 L' st h) := rfl
theorem e197_198 : exq sa F N S rt cd197 P Q 198 L st h = (P 55 L st h) := rfl
theorem e197_201 : exq sa F N S rt cd197 P Q 201 L st h = (ldI L 2 fun v => P 202 L (.int v :: st) h) := rfl
theorem e197_202 : exq sa F N S rt cd197 P Q 202 L st h = (tI st fun a s => br (a = 0) (P 205 L s h) (P 210 L s h)) := rfl
theorem e197_205 : exq sa F N S rt cd197 P Q 205 L st h = (ldI L 5 fun v => P 207 L (.int v :: st) h) := rfl
theorem e197_207 : exq sa F N S rt cd197 P Q 207 L st h = (P 212 L st h) := rfl
theorem e197_210 : exq sa F N S rt cd197 P Q 210 L st h = (ldI L 6 fun v => P 212 L (.int v :: st) h) := rfl
theorem e197_212 : exq sa F N S rt cd197 P Q 212 L st h = (tI st fun v s => s = [] ∧ (rt = some .int ∨ (rt = some .boolean ∧ (v = 0 ∨ v = 1))) ∧ Q (some (.int v)) h) := rfl
theorem e198_0 : exq sa F N S rt cd198 P Q 0 L st h = (ldR L 0 fun v => P 1 L (v :: st) h) := rfl
theorem e198_1 : exq sa F N S rt cd198 P Q 1 L st h = (ivV F 189 1 7 st h fun r s h' => P 4 L (pu r s) h') := rfl
theorem e198_4 : exq sa F N S rt cd198 P Q 4 L st h = (P 5 L (.int (Int32.ofInt (0)) :: st) h) := rfl
theorem e198_5 : exq sa F N S rt cd198 P Q 5 L st h = (tI st fun v s => lvS L 4 (.int v) fun L' => P 7 L' s h) := rfl
theorem e198_7 : exq sa F N S rt cd198 P Q 7 L st h = (ldI L 4 fun v => P 9 L (.int v :: st) h) := rfl
theorem e198_9 : exq sa F N S rt cd198 P Q 9 L st h = (P 11 L (.int (Int32.ofInt (60)) :: st) h) := rfl
theorem e198_11 : exq sa F N S rt cd198 P Q 11 L st h = (tI st fun b s => tI s fun a s => br (b < a) (P 59 L s h) (P 14 L s h)) := rfl
theorem e198_14 : exq sa F N S rt cd198 P Q 14 L st h = (ldR L 0 fun v => P 15 L (v :: st) h) := rfl
theorem e198_15 : exq sa F N S rt cd198 P Q 15 L st h = (tR st fun a s => opt (hO h a 7) fun fs => opt (fs[18]?) fun v => P 18 L (v :: s) h) := rfl
theorem e198_18 : exq sa F N S rt cd198 P Q 18 L st h = (P 19 L (.int (Int32.ofInt (1)) :: st) h) := rfl
theorem e198_19 : exq sa F N S rt cd198 P Q 19 L st h = (ald sa st h fun v s => P 20 L (.int v :: s) h) := rfl
theorem e198_20 : exq sa F N S rt cd198 P Q 20 L st h = (ldI L 2 fun v => P 21 L (.int v :: st) h) := rfl
theorem e198_21 : exq sa F N S rt cd198 P Q 21 L st h = (ivS F 136 2 st h fun r s h' => P 24 L (pu r s) h') := rfl
theorem e198_24 : exq sa F N S rt cd198 P Q 24 L st h = (tI st fun a s => br (a = 0) (P 30 L s h) (P 27 L s h)) := rfl
theorem e198_27 : exq sa F N S rt cd198 P Q 27 L st h = (ldI L 4 fun v => P 29 L (.int v :: st) h) := rfl
theorem e198_29 : exq sa F N S rt cd198 P Q 29 L st h = (tI st fun v s => s = [] ∧ (rt = some .int ∨ (rt = some .boolean ∧ (v = 0 ∨ v = 1))) ∧ Q (some (.int v)) h) := rfl
theorem e198_30 : exq sa F N S rt cd198 P Q 30 L st h = (ldI L 4 fun v => P 32 L (.int v :: st) h) := rfl
theorem e198_32 : exq sa F N S rt cd198 P Q 32 L st h = (ldI L 3 fun v => P 33 L (.int v :: st) h) := rfl
theorem e198_33 : exq sa F N S rt cd198 P Q 33 L st h = (tI st fun b s => tI s fun a s => br (a = b) (P 36 L s h) (P 45 L s h)) := rfl
theorem e198_36 : exq sa F N S rt cd198 P Q 36 L st h = (ldR L 0 fun v => P 37 L (v :: st) h) := rfl
theorem e198_37 : exq sa F N S rt cd198 P Q 37 L st h = (ldR L 0 fun v => P 38 L (v :: st) h) := rfl
theorem e198_38 : exq sa F N S rt cd198 P Q 38 L st h = (tR st fun a s => opt (hO h a 7) fun fs => opt (fs[18]?) fun v => P 41 L (v :: s) h) := rfl
theorem e198_41 : exq sa F N S rt cd198 P Q 41 L st h = (ldI L 1 fun v => P 42 L (.int v :: st) h) := rfl
theorem e198_42 : exq sa F N S rt cd198 P Q 42 L st h = (ivV F 176 3 7 st h fun r s h' => P 45 L (pu r s) h') := rfl
theorem e198_45 : exq sa F N S rt cd198 P Q 45 L st h = (ldR L 0 fun v => P 46 L (v :: st) h) := rfl
theorem e198_46 : exq sa F N S rt cd198 P Q 46 L st h = (ldR L 0 fun v => P 47 L (v :: st) h) := rfl
theorem e198_47 : exq sa F N S rt cd198 P Q 47 L st h = (tR st fun a s => opt (hO h a 7) fun fs => opt (fs[18]?) fun v => P 50 L (v :: s) h) := rfl
theorem e198_50 : exq sa F N S rt cd198 P Q 50 L st h = (ivV F 173 2 7 st h fun r s h' => P 53 L (pu r s) h') := rfl
theorem e198_53 : exq sa F N S rt cd198 P Q 53 L st h = (ldI L 4 fun v => lvS L 4 (.int (v + Int32.ofInt (1))) fun L' => P 56 L' st h) := rfl
theorem e198_56 : exq sa F N S rt cd198 P Q 56 L st h = (P 7 L st h) := rfl
theorem e198_59 : exq sa F N S rt cd198 P Q 59 L st h = (P 61 L (.int (Int32.ofInt (-1000000)) :: st) h) := rfl
theorem e198_61 : exq sa F N S rt cd198 P Q 61 L st h = (tI st fun v s => s = [] ∧ (rt = some .int ∨ (rt = some .boolean ∧ (v = 0 ∨ v = 1))) ∧ Q (some (.int v)) h) := rfl
theorem e199_0 : exq sa F N S rt cd199 P Q 0 L st h = (ldR L 0 fun v => P 1 L (v :: st) h) := rfl
theorem e199_1 : exq sa F N S rt cd199 P Q 1 L st h = (ldI L 1 fun v => P 2 L (.int v :: st) h) := rfl
theorem e199_2 : exq sa F N S rt cd199 P Q 2 L st h = (ivV F 162 2 7 st h fun r s h' => P 5 L (pu r s) h') := rfl
theorem e199_5 : exq sa F N S rt cd199 P Q 5 L st h = (tI st fun a s => br (a = 0) (P 25 L s h) (P 8 L s h)) := rfl
theorem e199_8 : exq sa F N S rt cd199 P Q 8 L st h = (ldR L 0 fun v => P 9 L (v :: st) h) := rfl
theorem e199_9 : exq sa F N S rt cd199 P Q 9 L st h = (ldI L 2 fun v => P 10 L (.int v :: st) h) := rfl
theorem e199_10 : exq sa F N S rt cd199 P Q 10 L st h = (ivV F 163 2 7 st h fun r s h' => P 13 L (pu r s) h') := rfl
theorem e199_13 : exq sa F N S rt cd199 P Q 13 L st h = (tI st fun a s => br (a = 0) (P 25 L s h) (P 16 L s h)) := rfl
theorem e199_16 : exq sa F N S rt cd199 P Q 16 L st h = (ldI L 3 fun v => P 17 L (.int v :: st) h) := rfl
theorem e199_17 : exq sa F N S rt cd199 P Q 17 L st h = (P 18 L (.int (Int32.ofInt (0)) :: st) h) := rfl
theorem e199_18 : exq sa F N S rt cd199 P Q 18 L st h = (P 19 L (.int (Int32.ofInt (1)) :: st) h) := rfl
theorem e199_19 : exq sa F N S rt cd199 P Q 19 L st h = (ivS F 135 3 st h fun r s h' => P 22 L (pu r s) h') := rfl
theorem e199_22 : exq sa F N S rt cd199 P Q 22 L st h = (tI st fun a s => br (a = 0) (P 25 L s h) (P 28 L s h)) := rfl
theorem e199_25 : exq sa F N S rt cd199 P Q 25 L st h = (P 27 L (.int (Int32.ofInt (-1000001)) :: st) h) := rfl
theorem e199_27 : exq sa F N S rt cd199 P Q 27 L st h = (tI st fun v s => s = [] ∧ (rt = some .int ∨ (rt = some .boolean ∧ (v = 0 ∨ v = 1))) ∧ Q (some (.int v)) h) := rfl
theorem e199_28 : exq sa F N S rt cd199 P Q 28 L st h = (ldR L 0 fun v => P 29 L (v :: st) h) := rfl
theorem e199_29 : exq sa F N S rt cd199 P Q 29 L st h = (tR st fun a s => opt (hO h a 7) fun fs => opt (fs[17]?) fun v => P 32 L (v :: s) h) := rfl
theorem e199_32 : exq sa F N S rt cd199 P Q 32 L st h = (P 34 L (.int (Int32.ofInt (24)) :: st) h) := rfl
theorem e199_34 : exq sa F N S rt cd199 P Q 34 L st h = (ldI L 1 fun v => P 35 L (.int v :: st) h) := rfl
theorem e199_35 : exq sa F N S rt cd199 P Q 35 L st h = (tI st fun b s => tI s fun a s => P 36 L (.int (a + b) :: s) h) := rfl
theorem e199_36 : exq sa F N S rt cd199 P Q 36 L st h = (ald sa st h fun v s => P 37 L (.int v :: s) h) := rfl
theorem e199_37 : exq sa F N S rt cd199 P Q 37 L st h = (tI st fun a s => br (a = 0) (P 43 L s h) (P 40 L s h)) := rfl
theorem e199_40 : exq sa F N S rt cd199 P Q 40 L st h = (P 42 L (.int (Int32.ofInt (-1000002)) :: st) h) := rfl
theorem e199_42 : exq sa F N S rt cd199 P Q 42 L st h = (tI st fun v s => s = [] ∧ (rt = some .int ∨ (rt = some .boolean ∧ (v = 0 ∨ v = 1))) ∧ Q (some (.int v)) h) := rfl
theorem e199_43 : exq sa F N S rt cd199 P Q 43 L st h = (P 45 L (.int (Int32.ofInt (-1000000)) :: st) h) := rfl
theorem e199_45 : exq sa F N S rt cd199 P Q 45 L st h = (tI st fun v s => lvS L 4 (.int v) fun L' => P 47 L' s h) := rfl
theorem e199_47 : exq sa F N S rt cd199 P Q 47 L st h = (P 49 L (.int (Int32.ofInt (1000000)) :: st) h) := rfl
theorem e199_49 : exq sa F N S rt cd199 P Q 49 L st h = (tI st fun v s => lvS L 5 (.int v) fun L' => P 51 L' s h) := rfl
theorem e199_51 : exq sa F N S rt cd199 P Q 51 L st h = (P 52 L (.int (Int32.ofInt (0)) :: st) h) := rfl
theorem e199_52 : exq sa F N S rt cd199 P Q 52 L st h = (tI st fun v s => lvS L 6 (.int v) fun L' => P 54 L' s h) := rfl
theorem e199_54 : exq sa F N S rt cd199 P Q 54 L st h = (ldI L 6 fun v => P 56 L (.int v :: st) h) := rfl
theorem e199_56 : exq sa F N S rt cd199 P Q 56 L st h = (P 58 L (.int (Int32.ofInt (20)) :: st) h) := rfl
theorem e199_58 : exq sa F N S rt cd199 P Q 58 L st h = (tI st fun b s => tI s fun a s => br (b < a) (P 126 L s h) (P 61 L s h)) := rfl
theorem e199_61 : exq sa F N S rt cd199 P Q 61 L st h = (ldR L 0 fun v => P 62 L (v :: st) h) := rfl
theorem e199_62 : exq sa F N S rt cd199 P Q 62 L st h = (ldI L 1 fun v => P 63 L (.int v :: st) h) := rfl
theorem e199_63 : exq sa F N S rt cd199 P Q 63 L st h = (ldI L 2 fun v => P 64 L (.int v :: st) h) := rfl
theorem e199_64 : exq sa F N S rt cd199 P Q 64 L st h = (ldI L 6 fun v => P 66 L (.int v :: st) h) := rfl
theorem e199_66 : exq sa F N S rt cd199 P Q 66 L st h = (ivV F 198 4 7 st h fun r s h' => P 69 L (pu r s) h') := rfl
theorem e199_69 : exq sa F N S rt cd199 P Q 69 L st h = (tI st fun v s => lvS L 7 (.int v) fun L' => P 71 L' s h) := rfl
theorem e199_71 : exq sa F N S rt cd199 P Q 71 L st h = (ldI L 7 fun v => P 73 L (.int v :: st) h) := rfl
theorem e199_73 : exq sa F N S rt cd199 P Q 73 L st h = (P 75 L (.int (Int32.ofInt (-1000000)) :: st) h) := rfl
theorem e199_75 : exq sa F N S rt cd199 P Q 75 L st h = (tI st fun b s => tI s fun a s => br (a = b) (P 89 L s h) (P 78 L s h)) := rfl
theorem e199_78 : exq sa F N S rt cd199 P Q 78 L st h = (ldI L 7 fun v => P 80 L (.int v :: st) h) := rfl
theorem e199_80 : exq sa F N S rt cd199 P Q 80 L st h = (ldI L 5 fun v => P 82 L (.int v :: st) h) := rfl
theorem e199_82 : exq sa F N S rt cd199 P Q 82 L st h = (tI st fun b s => tI s fun a s => br (b ≤ a) (P 89 L s h) (P 85 L s h)) := rfl
theorem e199_85 : exq sa F N S rt cd199 P Q 85 L st h = (P 86 L (.int (Int32.ofInt (1)) :: st) h) := rfl
theorem e199_86 : exq sa F N S rt cd199 P Q 86 L st h = (P 90 L st h) := rfl
theorem e199_89 : exq sa F N S rt cd199 P Q 89 L st h = (P 90 L (.int (Int32.ofInt (0)) :: st) h) := rfl
theorem e199_90 : exq sa F N S rt cd199 P Q 90 L st h = (tI st fun v s => lvS L 8 (.int v) fun L' => P 92 L' s h) := rfl
theorem e199_92 : exq sa F N S rt cd199 P Q 92 L st h = (ldI L 8 fun v => P 94 L (.int v :: st) h) := rfl
theorem e199_94 : exq sa F N S rt cd199 P Q 94 L st h = (tI st fun a s => br (a = 0) (P 102 L s h) (P 97 L s h)) := rfl
theorem e199_97 : exq sa F N S rt cd199 P Q 97 L st h = (ldI L 6 fun v => P 99 L (.int v :: st) h) := rfl
theorem e199_99 : exq sa F N S rt cd199 P Q 99 L st h = (P 104 L st h) := rfl
theorem e199_102 : exq sa F N S rt cd199 P Q 102 L st h = (ldI L 4 fun v => P 104 L (.int v :: st) h) := rfl
theorem e199_104 : exq sa F N S rt cd199 P Q 104 L st h = (tI st fun v s => lvS L 4 (.int v) fun L' => P 106 L' s h) := rfl
theorem e199_106 : exq sa F N S rt cd199 P Q 106 L st h = (ldI L 8 fun v => P 108 L (.int v :: st) h) := rfl
theorem e199_108 : exq sa F N S rt cd199 P Q 108 L st h = (tI st fun a s => br (a = 0) (P 116 L s h) (P 111 L s h)) := rfl
theorem e199_111 : exq sa F N S rt cd199 P Q 111 L st h = (ldI L 7 fun v => P 113 L (.int v :: st) h) := rfl
theorem e199_113 : exq sa F N S rt cd199 P Q 113 L st h = (P 118 L st h) := rfl
theorem e199_116 : exq sa F N S rt cd199 P Q 116 L st h = (ldI L 5 fun v => P 118 L (.int v :: st) h) := rfl
theorem e199_118 : exq sa F N S rt cd199 P Q 118 L st h = (tI st fun v s => lvS L 5 (.int v) fun L' => P 120 L' s h) := rfl
theorem e199_120 : exq sa F N S rt cd199 P Q 120 L st h = (ldI L 6 fun v => lvS L 6 (.int (v + Int32.ofInt (1))) fun L' => P 123 L' st h) := rfl
theorem e199_123 : exq sa F N S rt cd199 P Q 123 L st h = (P 54 L st h) := rfl
theorem e199_126 : exq sa F N S rt cd199 P Q 126 L st h = (ldI L 4 fun v => P 128 L (.int v :: st) h) := rfl
theorem e199_128 : exq sa F N S rt cd199 P Q 128 L st h = (P 130 L (.int (Int32.ofInt (-1000000)) :: st) h) := rfl
theorem e199_130 : exq sa F N S rt cd199 P Q 130 L st h = (tI st fun b s => tI s fun a s => br (a = b) (P 133 L s h) (P 138 L s h)) := rfl
theorem e199_133 : exq sa F N S rt cd199 P Q 133 L st h = (P 135 L (.int (Int32.ofInt (-1000000)) :: st) h) := rfl
theorem e199_135 : exq sa F N S rt cd199 P Q 135 L st h = (P 149 L st h) := rfl
theorem e199_138 : exq sa F N S rt cd199 P Q 138 L st h = (ldI L 3 fun v => P 139 L (.int v :: st) h) := rfl
theorem e199_139 : exq sa F N S rt cd199 P Q 139 L st h = (tI st fun a s => br (a = 0) (P 142 L s h) (P 147 L s h)) := rfl
theorem e199_142 : exq sa F N S rt cd199 P Q 142 L st h = (ldI L 4 fun v => P 144 L (.int v :: st) h) := rfl
theorem e199_144 : exq sa F N S rt cd199 P Q 144 L st h = (P 149 L st h) := rfl
theorem e199_147 : exq sa F N S rt cd199 P Q 147 L st h = (ldI L 5 fun v => P 149 L (.int v :: st) h) := rfl
theorem e199_149 : exq sa F N S rt cd199 P Q 149 L st h = (tI st fun v s => s = [] ∧ (rt = some .int ∨ (rt = some .boolean ∧ (v = 0 ∨ v = 1))) ∧ Q (some (.int v)) h) := rfl
theorem e200_0 : exq sa F N S rt cd200 P Q 0 L st h = (ldR L 0 fun v => P 1 L (v :: st) h) := rfl
theorem e200_1 : exq sa F N S rt cd200 P Q 1 L st h = (ldI L 1 fun v => P 2 L (.int v :: st) h) := rfl
theorem e200_2 : exq sa F N S rt cd200 P Q 2 L st h = (ivV F 162 2 7 st h fun r s h' => P 5 L (pu r s) h') := rfl
theorem e200_5 : exq sa F N S rt cd200 P Q 5 L st h = (tI st fun a s => br (a = 0) (P 26 L s h) (P 8 L s h)) := rfl
theorem e200_8 : exq sa F N S rt cd200 P Q 8 L st h = (ldR L 0 fun v => P 9 L (v :: st) h) := rfl
theorem e200_9 : exq sa F N S rt cd200 P Q 9 L st h = (ldI L 2 fun v => P 10 L (.int v :: st) h) := rfl
theorem e200_10 : exq sa F N S rt cd200 P Q 10 L st h = (ivV F 163 2 7 st h fun r s h' => P 13 L (pu r s) h') := rfl
theorem e200_13 : exq sa F N S rt cd200 P Q 13 L st h = (tI st fun a s => br (a = 0) (P 26 L s h) (P 16 L s h)) := rfl
theorem e200_16 : exq sa F N S rt cd200 P Q 16 L st h = (ldI L 3 fun v => P 17 L (.int v :: st) h) := rfl
theorem e200_17 : exq sa F N S rt cd200 P Q 17 L st h = (P 18 L (.int (Int32.ofInt (1)) :: st) h) := rfl
theorem e200_18 : exq sa F N S rt cd200 P Q 18 L st h = (P 20 L (.int (Int32.ofInt (30)) :: st) h) := rfl
theorem e200_20 : exq sa F N S rt cd200 P Q 20 L st h = (ivS F 135 3 st h fun r s h' => P 23 L (pu r s) h') := rfl
theorem e200_23 : exq sa F N S rt cd200 P Q 23 L st h = (tI st fun a s => br (a = 0) (P 26 L s h) (P 29 L s h)) := rfl
theorem e200_26 : exq sa F N S rt cd200 P Q 26 L st h = (P 28 L (.int (Int32.ofInt (-1000001)) :: st) h) := rfl
theorem e200_28 : exq sa F N S rt cd200 P Q 28 L st h = (tI st fun v s => s = [] ∧ (rt = some .int ∨ (rt = some .boolean ∧ (v = 0 ∨ v = 1))) ∧ Q (some (.int v)) h) := rfl
theorem e200_29 : exq sa F N S rt cd200 P Q 29 L st h = (ldR L 0 fun v => P 30 L (v :: st) h) := rfl
theorem e200_30 : exq sa F N S rt cd200 P Q 30 L st h = (tR st fun a s => opt (hO h a 7) fun fs => opt (fs[17]?) fun v => P 33 L (v :: s) h) := rfl
theorem e200_33 : exq sa F N S rt cd200 P Q 33 L st h = (P 35 L (.int (Int32.ofInt (24)) :: st) h) := rfl
theorem e200_35 : exq sa F N S rt cd200 P Q 35 L st h = (ldI L 1 fun v => P 36 L (.int v :: st) h) := rfl
theorem e200_36 : exq sa F N S rt cd200 P Q 36 L st h = (tI st fun b s => tI s fun a s => P 37 L (.int (a + b) :: s) h) := rfl
theorem e200_37 : exq sa F N S rt cd200 P Q 37 L st h = (ald sa st h fun v s => P 38 L (.int v :: s) h) := rfl
theorem e200_38 : exq sa F N S rt cd200 P Q 38 L st h = (P 39 L (.int (Int32.ofInt (2)) :: st) h) := rfl
theorem e200_39 : exq sa F N S rt cd200 P Q 39 L st h = (tI st fun b s => tI s fun a s => br (a = b) (P 42 L s h) (P 45 L s h)) := rfl
theorem e200_42 : exq sa F N S rt cd200 P Q 42 L st h = (P 44 L (.int (Int32.ofInt (-1000002)) :: st) h) := rfl
theorem e200_44 : exq sa F N S rt cd200 P Q 44 L st h = (tI st fun v s => s = [] ∧ (rt = some .int ∨ (rt = some .boolean ∧ (v = 0 ∨ v = 1))) ∧ Q (some (.int v)) h) := rfl
theorem e200_45 : exq sa F N S rt cd200 P Q 45 L st h = (P 46 L (.int (Int32.ofInt (0)) :: st) h) := rfl
theorem e200_46 : exq sa F N S rt cd200 P Q 46 L st h = (tI st fun v s => lvS L 4 (.int v) fun L' => P 48 L' s h) := rfl
theorem e200_48 : exq sa F N S rt cd200 P Q 48 L st h = (P 49 L (.int (Int32.ofInt (0)) :: st) h) := rfl
theorem e200_49 : exq sa F N S rt cd200 P Q 49 L st h = (tI st fun v s => lvS L 5 (.int v) fun L' => P 51 L' s h) := rfl
theorem e200_51 : exq sa F N S rt cd200 P Q 51 L st h = (ldI L 5 fun v => P 53 L (.int v :: st) h) := rfl
theorem e200_53 : exq sa F N S rt cd200 P Q 53 L st h = (P 55 L (.int (Int32.ofInt (9)) :: st) h) := rfl
theorem e200_55 : exq sa F N S rt cd200 P Q 55 L st h = (tI st fun b s => tI s fun a s => br (b < a) (P 110 L s h) (P 58 L s h)) := rfl
theorem e200_58 : exq sa F N S rt cd200 P Q 58 L st h = (ldR L 0 fun v => P 59 L (v :: st) h) := rfl
theorem e200_59 : exq sa F N S rt cd200 P Q 59 L st h = (ivV F 189 1 7 st h fun r s h' => P 62 L (pu r s) h') := rfl
theorem e200_62 : exq sa F N S rt cd200 P Q 62 L st h = (ldR L 0 fun v => P 63 L (v :: st) h) := rfl
theorem e200_63 : exq sa F N S rt cd200 P Q 63 L st h = (tR st fun a s => opt (hO h a 7) fun fs => opt (fs[18]?) fun v => P 66 L (v :: s) h) := rfl
theorem e200_66 : exq sa F N S rt cd200 P Q 66 L st h = (P 68 L (.int (Int32.ofInt (14)) :: st) h) := rfl
theorem e200_68 : exq sa F N S rt cd200 P Q 68 L st h = (ldI L 1 fun v => P 69 L (.int v :: st) h) := rfl
theorem e200_69 : exq sa F N S rt cd200 P Q 69 L st h = (tI st fun b s => tI s fun a s => P 70 L (.int (a + b) :: s) h) := rfl
theorem e200_70 : exq sa F N S rt cd200 P Q 70 L st h = (ldI L 5 fun v => P 72 L (.int v :: st) h) := rfl
theorem e200_72 : exq sa F N S rt cd200 P Q 72 L st h = (tI st fun v s => tI s fun i s => tR s fun a s => opt (hI h a) fun q => ix i q.1 fun k => P 73 L s (hS h a (.inl (0, q.1, .inl (upd q.2 k v))))) := rfl
theorem e200_73 : exq sa F N S rt cd200 P Q 73 L st h = (ldR L 0 fun v => P 74 L (v :: st) h) := rfl
theorem e200_74 : exq sa F N S rt cd200 P Q 74 L st h = (ldI L 3 fun v => P 75 L (.int v :: st) h) := rfl
theorem e200_75 : exq sa F N S rt cd200 P Q 75 L st h = (ivV F 190 2 7 st h fun r s h' => P 78 L (pu r s) h') := rfl
theorem e200_78 : exq sa F N S rt cd200 P Q 78 L st h = (ldI L 4 fun v => P 80 L (.int v :: st) h) := rfl
theorem e200_80 : exq sa F N S rt cd200 P Q 80 L st h = (ldR L 0 fun v => P 81 L (v :: st) h) := rfl
theorem e200_81 : exq sa F N S rt cd200 P Q 81 L st h = (tR st fun a s => opt (hO h a 7) fun fs => opt (fs[18]?) fun v => P 84 L (v :: s) h) := rfl
theorem e200_84 : exq sa F N S rt cd200 P Q 84 L st h = (P 85 L (.int (Int32.ofInt (1)) :: st) h) := rfl
theorem e200_85 : exq sa F N S rt cd200 P Q 85 L st h = (ald sa st h fun v s => P 86 L (.int v :: s) h) := rfl
theorem e200_86 : exq sa F N S rt cd200 P Q 86 L st h = (ldI L 2 fun v => P 87 L (.int v :: st) h) := rfl
theorem e200_87 : exq sa F N S rt cd200 P Q 87 L st h = (ivS F 136 2 st h fun r s h' => P 90 L (pu r s) h') := rfl
theorem e200_90 : exq sa F N S rt cd200 P Q 90 L st h = (tI st fun a s => br (a = 0) (P 100 L s h) (P 93 L s h)) := rfl
theorem e200_93 : exq sa F N S rt cd200 P Q 93 L st h = (P 94 L (.int (Int32.ofInt (1)) :: st) h) := rfl
theorem e200_94 : exq sa F N S rt cd200 P Q 94 L st h = (ldI L 5 fun v => P 96 L (.int v :: st) h) := rfl
theorem e200_96 : exq sa F N S rt cd200 P Q 96 L st h = (tI st fun b s => tI s fun a s => P 97 L (.int (a <<< (b &&& 31)) :: s) h) := rfl
theorem e200_97 : exq sa F N S rt cd200 P Q 97 L st h = (P 101 L st h) := rfl
theorem e200_100 : exq sa F N S rt cd200 P Q 100 L st h = (P 101 L (.int (Int32.ofInt (0)) :: st) h) := rfl
theorem e200_101 : exq sa F N S rt cd200 P Q 101 L st h = (tI st fun b s => tI s fun a s => P 102 L (.int (a ||| b) :: s) h) := rfl
theorem e200_102 : exq sa F N S rt cd200 P Q 102 L st h = (tI st fun v s => lvS L 4 (.int v) fun L' => P 104 L' s h) := rfl
theorem e200_104 : exq sa F N S rt cd200 P Q 104 L st h = (ldI L 5 fun v => lvS L 5 (.int (v + Int32.ofInt (1))) fun L' => P 107 L' st h) := rfl
theorem e200_107 : exq sa F N S rt cd200 P Q 107 L st h = (P 51 L st h) := rfl
theorem e200_110 : exq sa F N S rt cd200 P Q 110 L st h = (ldI L 4 fun v => P 112 L (.int v :: st) h) := rfl
theorem e200_112 : exq sa F N S rt cd200 P Q 112 L st h = (tI st fun v s => s = [] ∧ (rt = some .int ∨ (rt = some .boolean ∧ (v = 0 ∨ v = 1))) ∧ Q (some (.int v)) h) := rfl
theorem e201_0 : exq sa F N S rt cd201 P Q 0 L st h = (ldR L 0 fun v => P 1 L (v :: st) h) := rfl
theorem e201_1 : exq sa F N S rt cd201 P Q 1 L st h = (ldI L 1 fun v => P 2 L (.int v :: st) h) := rfl
theorem e201_2 : exq sa F N S rt cd201 P Q 2 L st h = (P 3 L (.int (Int32.ofInt (0)) :: st) h) := rfl
theorem e201_3 : exq sa F N S rt cd201 P Q 3 L st h = (P 4 L (.int (Int32.ofInt (4)) :: st) h) := rfl
theorem e201_4 : exq sa F N S rt cd201 P Q 4 L st h = (ivS F 135 3 st h fun r s h' => P 7 L (pu r s) h') := rfl
theorem e201_7 : exq sa F N S rt cd201 P Q 7 L st h = (tI st fun a s => br (a = 0) (P 24 L s h) (P 10 L s h)) := rfl
theorem e201_10 : exq sa F N S rt cd201 P Q 10 L st h = (ldI L 2 fun v => P 11 L (.int v :: st) h) := rfl
theorem e201_11 : exq sa F N S rt cd201 P Q 11 L st h = (P 12 L (.int (Int32.ofInt (1)) :: st) h) := rfl
theorem e201_12 : exq sa F N S rt cd201 P Q 12 L st h = (P 14 L (.int (Int32.ofInt (20)) :: st) h) := rfl
theorem e201_14 : exq sa F N S rt cd201 P Q 14 L st h = (ivS F 135 3 st h fun r s h' => P 17 L (pu r s) h') := rfl
theorem e201_17 : exq sa F N S rt cd201 P Q 17 L st h = (tI st fun a s => br (a = 0) (P 24 L s h) (P 20 L s h)) := rfl
theorem e201_20 : exq sa F N S rt cd201 P Q 20 L st h = (P 21 L (.int (Int32.ofInt (1)) :: st) h) := rfl
theorem e201_21 : exq sa F N S rt cd201 P Q 21 L st h = (P 25 L st h) := rfl
theorem e201_24 : exq sa F N S rt cd201 P Q 24 L st h = (P 25 L (.int (Int32.ofInt (0)) :: st) h) := rfl
theorem e201_25 : exq sa F N S rt cd201 P Q 25 L st h = (ivV F 180 2 7 st h fun r s h' => P 28 L (pu r s) h') := rfl
theorem e201_28 : exq sa F N S rt cd201 P Q 28 L st h = (tI st fun v s => lvS L 3 (.int v) fun L' => P 29 L' s h) := rfl
theorem e201_29 : exq sa F N S rt cd201 P Q 29 L st h = (ldI L 3 fun v => P 30 L (.int v :: st) h) := rfl
theorem e201_30 : exq sa F N S rt cd201 P Q 30 L st h = (tI st fun a s => br (0 ≤ a) (P 35 L s h) (P 33 L s h)) := rfl
theorem e201_33 : exq sa F N S rt cd201 P Q 33 L st h = (ldI L 3 fun v => P 34 L (.int v :: st) h) := rfl
theorem e201_34 : exq sa F N S rt cd201 P Q 34 L st h = (tI st fun v s => s = [] ∧ (rt = some .int ∨ (rt = some .boolean ∧ (v = 0 ∨ v = 1))) ∧ Q (some (.int v)) h) := rfl
theorem e201_35 : exq sa F N S rt cd201 P Q 35 L st h = (ldR L 0 fun v => P 36 L (v :: st) h) := rfl
theorem e201_36 : exq sa F N S rt cd201 P Q 36 L st h = (ldR L 0 fun v => P 37 L (v :: st) h) := rfl
theorem e201_37 : exq sa F N S rt cd201 P Q 37 L st h = (tR st fun a s => opt (hO h a 7) fun fs => opt (fs[17]?) fun v => P 40 L (v :: s) h) := rfl
theorem e201_40 : exq sa F N S rt cd201 P Q 40 L st h = (P 41 L (.int (Int32.ofInt (0)) :: st) h) := rfl
theorem e201_41 : exq sa F N S rt cd201 P Q 41 L st h = (ivV F 175 3 7 st h fun r s h' => P 44 L (pu r s) h') := rfl
theorem e201_44 : exq sa F N S rt cd201 P Q 44 L st h = (tI st fun v s => lvS L 4 (.int v) fun L' => P 46 L' s h) := rfl
theorem e201_46 : exq sa F N S rt cd201 P Q 46 L st h = (P 47 L (.int (Int32.ofInt (0)) :: st) h) := rfl
theorem e201_47 : exq sa F N S rt cd201 P Q 47 L st h = (tI st fun v s => lvS L 5 (.int v) fun L' => P 49 L' s h) := rfl
theorem e201_49 : exq sa F N S rt cd201 P Q 49 L st h = (ldI L 5 fun v => P 51 L (.int v :: st) h) := rfl
theorem e201_51 : exq sa F N S rt cd201 P Q 51 L st h = (P 53 L (.int (Int32.ofInt (32)) :: st) h) := rfl
theorem e201_53 : exq sa F N S rt cd201 P Q 53 L st h = (tI st fun b s => tI s fun a s => br (b ≤ a) (P 125 L s h) (P 56 L s h)) := rfl
theorem e201_56 : exq sa F N S rt cd201 P Q 56 L st h = (ldR L 0 fun v => P 57 L (v :: st) h) := rfl
theorem e201_57 : exq sa F N S rt cd201 P Q 57 L st h = (ivV F 189 1 7 st h fun r s h' => P 60 L (pu r s) h') := rfl
theorem e201_60 : exq sa F N S rt cd201 P Q 60 L st h = (P 61 L (.int (Int32.ofInt (0)) :: st) h) := rfl
theorem e201_61 : exq sa F N S rt cd201 P Q 61 L st h = (tI st fun v s => lvS L 6 (.int v) fun L' => P 63 L' s h) := rfl
theorem e201_63 : exq sa F N S rt cd201 P Q 63 L st h = (ldI L 6 fun v => P 65 L (.int v :: st) h) := rfl
theorem e201_65 : exq sa F N S rt cd201 P Q 65 L st h = (ldR L 0 fun v => P 66 L (v :: st) h) := rfl
theorem e201_66 : exq sa F N S rt cd201 P Q 66 L st h = (tR st fun a s => opt (hO h a 7) fun fs => opt (fs[16]?) fun v => P 69 L (v :: s) h) := rfl
theorem e201_69 : exq sa F N S rt cd201 P Q 69 L st h = (P 70 L (.int (Int32.ofInt (0)) :: st) h) := rfl
theorem e201_70 : exq sa F N S rt cd201 P Q 70 L st h = (ald sa st h fun v s => P 71 L (.int v :: s) h) := rfl
theorem e201_71 : exq sa F N S rt cd201 P Q 71 L st h = (tI st fun b s => tI s fun a s => br (b ≤ a) (P 103 L s h) (P 74 L s h)) := rfl
theorem e201_74 : exq sa F N S rt cd201 P Q 74 L st h = (ldI L 5 fun v => P 76 L (.int v :: st) h) := rfl
theorem e201_76 : exq sa F N S rt cd201 P Q 76 L st h = (ldI L 4 fun v => P 78 L (.int v :: st) h) := rfl
theorem e201_78 : exq sa F N S rt cd201 P Q 78 L st h = (tI st fun b s => tI s fun a s => P 79 L (.int (a &&& b) :: s) h) := rfl
theorem e201_79 : exq sa F N S rt cd201 P Q 79 L st h = (ldI L 6 fun v => P 81 L (.int v :: st) h) := rfl
theorem e201_81 : exq sa F N S rt cd201 P Q 81 L st h = (ivS F 136 2 st h fun r s h' => P 84 L (pu r s) h') := rfl
theorem e201_84 : exq sa F N S rt cd201 P Q 84 L st h = (tI st fun a s => br (a = 0) (P 97 L s h) (P 87 L s h)) := rfl
theorem e201_87 : exq sa F N S rt cd201 P Q 87 L st h = (ldR L 0 fun v => P 88 L (v :: st) h) := rfl
theorem e201_88 : exq sa F N S rt cd201 P Q 88 L st h = (ldR L 0 fun v => P 89 L (v :: st) h) := rfl
theorem e201_89 : exq sa F N S rt cd201 P Q 89 L st h = (tR st fun a s => opt (hO h a 7) fun fs => opt (fs[18]?) fun v => P 92 L (v :: s) h) := rfl
theorem e201_92 : exq sa F N S rt cd201 P Q 92 L st h = (ldI L 6 fun v => P 94 L (.int v :: st) h) := rfl
theorem e201_94 : exq sa F N S rt cd201 P Q 94 L st h = (ivV F 176 3 7 st h fun r s h' => P 97 L (pu r s) h') := rfl
theorem e201_97 : exq sa F N S rt cd201 P Q 97 L st h = (ldI L 6 fun v => lvS L 6 (.int (v + Int32.ofInt (1))) fun L' => P 100 L' st h) := rfl
theorem e201_100 : exq sa F N S rt cd201 P Q 100 L st h = (P 63 L st h) := rfl
theorem e201_103 : exq sa F N S rt cd201 P Q 103 L st h = (ldR L 0 fun v => P 104 L (v :: st) h) := rfl
theorem e201_104 : exq sa F N S rt cd201 P Q 104 L st h = (ldI L 2 fun v => P 105 L (.int v :: st) h) := rfl
theorem e201_105 : exq sa F N S rt cd201 P Q 105 L st h = (ivV F 190 2 7 st h fun r s h' => P 108 L (pu r s) h') := rfl
theorem e201_108 : exq sa F N S rt cd201 P Q 108 L st h = (ldR L 0 fun v => P 109 L (v :: st) h) := rfl
theorem e201_109 : exq sa F N S rt cd201 P Q 109 L st h = (tR st fun a s => opt (hO h a 7) fun fs => opt (fs[23]?) fun v => P 112 L (v :: s) h) := rfl
theorem e201_112 : exq sa F N S rt cd201 P Q 112 L st h = (ldI L 5 fun v => P 114 L (.int v :: st) h) := rfl
theorem e201_114 : exq sa F N S rt cd201 P Q 114 L st h = (ldR L 0 fun v => P 115 L (v :: st) h) := rfl
theorem e201_115 : exq sa F N S rt cd201 P Q 115 L st h = (tR st fun a s => opt (hO h a 7) fun fs => opt (fs[19]?) fun v => P 118 L (v :: s) h) := rfl
theorem e201_118 : exq sa F N S rt cd201 P Q 118 L st h = (tI st fun v s => tI s fun i s => tR s fun a s => opt (hI h a) fun q => ix i q.1 fun k => P 119 L s (hS h a (.inl (0, q.1, .inl (upd q.2 k v))))) := rfl
theorem e201_119 : exq sa F N S rt cd201 P Q 119 L st h = (ldI L 5 fun v => lvS L 5 (.int (v + Int32.ofInt (1))) fun L' => P 122 L' st h) := rfl
theorem e201_122 : exq sa F N S rt cd201 P Q 122 L st h = (P 49 L st h) := rfl
theorem e201_125 : exq sa F N S rt cd201 P Q 125 L st h = (ldI L 1 fun v => P 126 L (.int v :: st) h) := rfl
theorem e201_126 : exq sa F N S rt cd201 P Q 126 L st h = (P 127 L (.int (Int32.ofInt (1)) :: st) h) := rfl
theorem e201_127 : exq sa F N S rt cd201 P Q 127 L st h = (tI st fun b s => tI s fun a s => P 128 L (.int (a - b) :: s) h) := rfl
theorem e201_128 : exq sa F N S rt cd201 P Q 128 L st h = (tI st fun v s => lvS L 5 (.int v) fun L' => P 130 L' s h) := rfl
theorem e201_130 : exq sa F N S rt cd201 P Q 130 L st h = (ldI L 5 fun v => P 132 L (.int v :: st) h) := rfl
theorem e201_132 : exq sa F N S rt cd201 P Q 132 L st h = (tI st fun a s => br (a < 0) (P 289 L s h) (P 135 L s h)) := rfl
theorem e201_135 : exq sa F N S rt cd201 P Q 135 L st h = (P 136 L (.int (Int32.ofInt (0)) :: st) h) := rfl
theorem e201_136 : exq sa F N S rt cd201 P Q 136 L st h = (tI st fun v s => lvS L 6 (.int v) fun L' => P 138 L' s h) := rfl
theorem e201_138 : exq sa F N S rt cd201 P Q 138 L st h = (ldI L 6 fun v => P 140 L (.int v :: st) h) := rfl
theorem e201_140 : exq sa F N S rt cd201 P Q 140 L st h = (P 142 L (.int (Int32.ofInt (32)) :: st) h) := rfl
theorem e201_142 : exq sa F N S rt cd201 P Q 142 L st h = (tI st fun b s => tI s fun a s => br (b ≤ a) (P 283 L s h) (P 145 L s h)) := rfl
theorem e201_145 : exq sa F N S rt cd201 P Q 145 L st h = (ldR L 0 fun v => P 146 L (v :: st) h) := rfl
theorem e201_146 : exq sa F N S rt cd201 P Q 146 L st h = (tR st fun a s => opt (hO h a 7) fun fs => opt (fs[23]?) fun v => P 149 L (v :: s) h) := rfl
theorem e201_149 : exq sa F N S rt cd201 P Q 149 L st h = (ldI L 6 fun v => P 151 L (.int v :: st) h) := rfl
theorem e201_151 : exq sa F N S rt cd201 P Q 151 L st h = (ald sa st h fun v s => P 152 L (.int v :: s) h) := rfl
theorem e201_152 : exq sa F N S rt cd201 P Q 152 L st h = (tI st fun v s => lvS L 7 (.int v) fun L' => P 154 L' s h) := rfl
theorem e201_154 : exq sa F N S rt cd201 P Q 154 L st h = (ldI L 5 fun v => P 156 L (.int v :: st) h) := rfl
theorem e201_156 : exq sa F N S rt cd201 P Q 156 L st h = (P 157 L (.int (Int32.ofInt (2)) :: st) h) := rfl
theorem e201_157 : exq sa F N S rt cd201 P Q 157 L st h = (tI st fun b s => tI s fun a s => ¬ b = 0 ∧ P 158 L (.int (a - a / b * b) :: s) h) := rfl
theorem e201_158 : exq sa F N S rt cd201 P Q 158 L st h = (tI st fun v s => lvS L 8 (.int v) fun L' => P 160 L' s h) := rfl
theorem e201_160 : exq sa F N S rt cd201 P Q 160 L st h = (ldI L 8 fun v => P 162 L (.int v :: st) h) := rfl
theorem e201_162 : exq sa F N S rt cd201 P Q 162 L st h = (ldR L 0 fun v => P 163 L (v :: st) h) := rfl
theorem e201_163 : exq sa F N S rt cd201 P Q 163 L st h = (tR st fun a s => opt (hO h a 7) fun fs => opt (fs[16]?) fun v => P 166 L (v :: s) h) := rfl
theorem e201_166 : exq sa F N S rt cd201 P Q 166 L st h = (P 167 L (.int (Int32.ofInt (0)) :: st) h) := rfl
theorem e201_167 : exq sa F N S rt cd201 P Q 167 L st h = (ald sa st h fun v s => P 168 L (.int v :: s) h) := rfl
theorem e201_168 : exq sa F N S rt cd201 P Q 168 L st h = (tI st fun b s => tI s fun a s => br (b ≤ a) (P 268 L s h) (P 171 L s h)) := rfl
theorem e201_171 : exq sa F N S rt cd201 P Q 171 L st h = (ldI L 4 fun v => P 173 L (.int v :: st) h) := rfl
theorem e201_173 : exq sa F N S rt cd201 P Q 173 L st h = (ldI L 8 fun v => P 175 L (.int v :: st) h) := rfl
theorem e201_175 : exq sa F N S rt cd201 P Q 175 L st h = (ivS F 136 2 st h fun r s h' => P 178 L (pu r s) h') := rfl
theorem e201_178 : exq sa F N S rt cd201 P Q 178 L st h = (tI st fun a s => br (a = 0) (P 195 L s h) (P 181 L s h)) := rfl
theorem e201_181 : exq sa F N S rt cd201 P Q 181 L st h = (ldI L 6 fun v => P 183 L (.int v :: st) h) := rfl
theorem e201_183 : exq sa F N S rt cd201 P Q 183 L st h = (ldI L 8 fun v => P 185 L (.int v :: st) h) := rfl
theorem e201_185 : exq sa F N S rt cd201 P Q 185 L st h = (ivS F 136 2 st h fun r s h' => P 188 L (pu r s) h') := rfl
theorem e201_188 : exq sa F N S rt cd201 P Q 188 L st h = (tI st fun a s => br (a = 0) (P 191 L s h) (P 195 L s h)) := rfl
theorem e201_191 : exq sa F N S rt cd201 P Q 191 L st h = (P 192 L (.int (Int32.ofInt (1)) :: st) h) := rfl
theorem e201_192 : exq sa F N S rt cd201 P Q 192 L st h = (P 196 L st h) := rfl
theorem e201_195 : exq sa F N S rt cd201 P Q 195 L st h = (P 196 L (.int (Int32.ofInt (0)) :: st) h) := rfl
theorem e201_196 : exq sa F N S rt cd201 P Q 196 L st h = (tI st fun v s => lvS L 9 (.int v) fun L' => P 198 L' s h) := rfl
theorem e201_198 : exq sa F N S rt cd201 P Q 198 L st h = (ldI L 9 fun v => P 200 L (.int v :: st) h) := rfl
theorem e201_200 : exq sa F N S rt cd201 P Q 200 L st h = (tI st fun a s => br (a = 0) (P 218 L s h) (P 203 L s h)) := rfl
theorem e201_203 : exq sa F N S rt cd201 P Q 203 L st h = (ldR L 0 fun v => P 204 L (v :: st) h) := rfl
theorem e201_204 : exq sa F N S rt cd201 P Q 204 L st h = (tR st fun a s => opt (hO h a 7) fun fs => opt (fs[23]?) fun v => P 207 L (v :: s) h) := rfl
theorem e201_207 : exq sa F N S rt cd201 P Q 207 L st h = (ldI L 6 fun v => P 209 L (.int v :: st) h) := rfl
theorem e201_209 : exq sa F N S rt cd201 P Q 209 L st h = (P 210 L (.int (Int32.ofInt (1)) :: st) h) := rfl
theorem e201_210 : exq sa F N S rt cd201 P Q 210 L st h = (ldI L 8 fun v => P 212 L (.int v :: st) h) := rfl
theorem e201_212 : exq sa F N S rt cd201 P Q 212 L st h = (tI st fun b s => tI s fun a s => P 213 L (.int (a <<< (b &&& 31)) :: s) h) := rfl
theorem e201_213 : exq sa F N S rt cd201 P Q 213 L st h = (tI st fun b s => tI s fun a s => P 214 L (.int (a ||| b) :: s) h) := rfl
theorem e201_214 : exq sa F N S rt cd201 P Q 214 L st h = (ald sa st h fun v s => P 215 L (.int v :: s) h) := rfl
theorem e201_215 : exq sa F N S rt cd201 P Q 215 L st h = (P 220 L st h) := rfl
theorem e201_218 : exq sa F N S rt cd201 P Q 218 L st h = (ldI L 7 fun v => P 220 L (.int v :: st) h) := rfl
theorem e201_220 : exq sa F N S rt cd201 P Q 220 L st h = (tI st fun v s => lvS L 10 (.int v) fun L' => P 222 L' s h) := rfl
theorem e201_222 : exq sa F N S rt cd201 P Q 222 L st h = (ldI L 5 fun v => P 224 L (.int v :: st) h) := rfl
theorem e201_224 : exq sa F N S rt cd201 P Q 224 L st h = (P 225 L (.int (Int32.ofInt (2)) :: st) h) := rfl
theorem e201_225 : exq sa F N S rt cd201 P Q 225 L st h = (tI st fun b s => tI s fun a s => ¬ b = 0 ∧ P 226 L (.int (a - a / b * b) :: s) h) := rfl
theorem e201_226 : exq sa F N S rt cd201 P Q 226 L st h = (tI st fun a s => br (a = 0) (P 229 L s h) (P 246 L s h)) := rfl
theorem e201_229 : exq sa F N S rt cd201 P Q 229 L st h = (ldI L 10 fun v => P 231 L (.int v :: st) h) := rfl
theorem e201_231 : exq sa F N S rt cd201 P Q 231 L st h = (ldI L 7 fun v => P 233 L (.int v :: st) h) := rfl
theorem e201_233 : exq sa F N S rt cd201 P Q 233 L st h = (tI st fun b s => tI s fun a s => br (a ≤ b) (P 241 L s h) (P 236 L s h)) := rfl
theorem e201_236 : exq sa F N S rt cd201 P Q 236 L st h = (ldI L 10 fun v => P 238 L (.int v :: st) h) := rfl
theorem e201_238 : exq sa F N S rt cd201 P Q 238 L st h = (P 260 L st h) := rfl
theorem e201_241 : exq sa F N S rt cd201 P Q 241 L st h = (ldI L 7 fun v => P 243 L (.int v :: st) h) := rfl
theorem e201_243 : exq sa F N S rt cd201 P Q 243 L st h = (P 260 L st h) := rfl
theorem e201_246 : exq sa F N S rt cd201 P Q 246 L st h = (ldI L 10 fun v => P 248 L (.int v :: st) h) := rfl
theorem e201_248 : exq sa F N S rt cd201 P Q 248 L st h = (ldI L 7 fun v => P 250 L (.int v :: st) h) := rfl
theorem e201_250 : exq sa F N S rt cd201 P Q 250 L st h = (tI st fun b s => tI s fun a s => br (b ≤ a) (P 258 L s h) (P 253 L s h)) := rfl
theorem e201_253 : exq sa F N S rt cd201 P Q 253 L st h = (ldI L 10 fun v => P 255 L (.int v :: st) h) := rfl
theorem e201_255 : exq sa F N S rt cd201 P Q 255 L st h = (P 260 L st h) := rfl
theorem e201_258 : exq sa F N S rt cd201 P Q 258 L st h = (ldI L 7 fun v => P 260 L (.int v :: st) h) := rfl
theorem e201_260 : exq sa F N S rt cd201 P Q 260 L st h = (tI st fun v s => lvS L 7 (.int v) fun L' => P 262 L' s h) := rfl
theorem e201_262 : exq sa F N S rt cd201 P Q 262 L st h = (ldI L 8 fun v => lvS L 8 (.int (v + Int32.ofInt (2))) fun L' => P 265 L' st h) := rfl
theorem e201_265 : exq sa F N S rt cd201 P Q 265 L st h = (P 160 L st h) := rfl
theorem e201_268 : exq sa F N S rt cd201 P Q 268 L st h = (ldR L 0 fun v => P 269 L (v :: st) h) := rfl
theorem e201_269 : exq sa F N S rt cd201 P Q 269 L st h = (tR st fun a s => opt (hO h a 7) fun fs => opt (fs[23]?) fun v => P 272 L (v :: s) h) := rfl
theorem e201_272 : exq sa F N S rt cd201 P Q 272 L st h = (ldI L 6 fun v => P 274 L (.int v :: st) h) := rfl
theorem e201_274 : exq sa F N S rt cd201 P Q 274 L st h = (ldI L 7 fun v => P 276 L (.int v :: st) h) := rfl
theorem e201_276 : exq sa F N S rt cd201 P Q 276 L st h = (tI st fun v s => tI s fun i s => tR s fun a s => opt (hI h a) fun q => ix i q.1 fun k => P 277 L s (hS h a (.inl (0, q.1, .inl (upd q.2 k v))))) := rfl
theorem e201_277 : exq sa F N S rt cd201 P Q 277 L st h = (ldI L 6 fun v => lvS L 6 (.int (v + Int32.ofInt (1))) fun L' => P 280 L' st h) := rfl
theorem e201_280 : exq sa F N S rt cd201 P Q 280 L st h = (P 138 L st h) := rfl
theorem e201_283 : exq sa F N S rt cd201 P Q 283 L st h = (ldI L 5 fun v => lvS L 5 (.int (v + Int32.ofInt (-1))) fun L' => P 286 L' st h) := rfl
theorem e201_286 : exq sa F N S rt cd201 P Q 286 L st h = (P 130 L st h) := rfl
theorem e201_289 : exq sa F N S rt cd201 P Q 289 L st h = (ldR L 0 fun v => P 290 L (v :: st) h) := rfl
theorem e201_290 : exq sa F N S rt cd201 P Q 290 L st h = (tR st fun a s => opt (hO h a 7) fun fs => opt (fs[23]?) fun v => P 293 L (v :: s) h) := rfl
theorem e201_293 : exq sa F N S rt cd201 P Q 293 L st h = (P 294 L (.int (Int32.ofInt (0)) :: st) h) := rfl
theorem e201_294 : exq sa F N S rt cd201 P Q 294 L st h = (ald sa st h fun v s => P 295 L (.int v :: s) h) := rfl
theorem e201_295 : exq sa F N S rt cd201 P Q 295 L st h = (tI st fun v s => s = [] ∧ (rt = some .int ∨ (rt = some .boolean ∧ (v = 0 ∨ v = 1))) ∧ Q (some (.int v)) h) := rfl
theorem e202_0 : exq sa F N S rt cd202 P Q 0 L st h = (ldR L 0 fun v => P 1 L (v :: st) h) := rfl
theorem e202_1 : exq sa F N S rt cd202 P Q 1 L st h = (ldI L 1 fun v => P 2 L (.int v :: st) h) := rfl
theorem e202_2 : exq sa F N S rt cd202 P Q 2 L st h = (ivV F 164 2 7 st h fun r s h' => P 5 L (pu r s) h') := rfl
theorem e202_5 : exq sa F N S rt cd202 P Q 5 L st h = (tI st fun a s => br (a = 0) (P 17 L s h) (P 8 L s h)) := rfl
theorem e202_8 : exq sa F N S rt cd202 P Q 8 L st h = (ldI L 2 fun v => P 9 L (.int v :: st) h) := rfl
theorem e202_9 : exq sa F N S rt cd202 P Q 9 L st h = (P 10 L (.int (Int32.ofInt (0)) :: st) h) := rfl
theorem e202_10 : exq sa F N S rt cd202 P Q 10 L st h = (P 11 L (.int (Int32.ofInt (1)) :: st) h) := rfl
theorem e202_11 : exq sa F N S rt cd202 P Q 11 L st h = (ivS F 135 3 st h fun r s h' => P 14 L (pu r s) h') := rfl
theorem e202_14 : exq sa F N S rt cd202 P Q 14 L st h = (tI st fun a s => br (a = 0) (P 17 L s h) (P 20 L s h)) := rfl
theorem e202_17 : exq sa F N S rt cd202 P Q 17 L st h = (P 19 L (.int (Int32.ofInt (-1000001)) :: st) h) := rfl
theorem e202_19 : exq sa F N S rt cd202 P Q 19 L st h = (tI st fun v s => s = [] ∧ (rt = some .int ∨ (rt = some .boolean ∧ (v = 0 ∨ v = 1))) ∧ Q (some (.int v)) h) := rfl
theorem e202_20 : exq sa F N S rt cd202 P Q 20 L st h = (ldR L 0 fun v => P 21 L (v :: st) h) := rfl
theorem e202_21 : exq sa F N S rt cd202 P Q 21 L st h = (ldR L 0 fun v => P 22 L (v :: st) h) := rfl
theorem e202_22 : exq sa F N S rt cd202 P Q 22 L st h = (tR st fun a s => opt (hO h a 7) fun fs => opt (fs[17]?) fun v => P 25 L (v :: s) h) := rfl
theorem e202_25 : exq sa F N S rt cd202 P Q 25 L st h = (ldI L 1 fun v => P 26 L (.int v :: st) h) := rfl
theorem e202_26 : exq sa F N S rt cd202 P Q 26 L st h = (P 27 L (.int (Int32.ofInt (0)) :: st) h) := rfl
theorem e202_27 : exq sa F N S rt cd202 P Q 27 L st h = (ivV F 166 4 7 st h fun r s h' => P 30 L (pu r s) h') := rfl
theorem e202_30 : exq sa F N S rt cd202 P Q 30 L st h = (tI st fun v s => lvS L 3 (.int v) fun L' => P 31 L' s h) := rfl
theorem e202_31 : exq sa F N S rt cd202 P Q 31 L st h = (ldI L 3 fun v => P 32 L (.int v :: st) h) := rfl
theorem e202_32 : exq sa F N S rt cd202 P Q 32 L st h = (P 34 L (.int (Int32.ofInt (-1000000)) :: st) h) := rfl
theorem e202_34 : exq sa F N S rt cd202 P Q 34 L st h = (tI st fun b s => tI s fun a s => br (a = b) (P 37 L s h) (P 42 L s h)) := rfl
theorem e202_37 : exq sa F N S rt cd202 P Q 37 L st h = (P 39 L (.int (Int32.ofInt (-1000000)) :: st) h) := rfl
theorem e202_39 : exq sa F N S rt cd202 P Q 39 L st h = (P 62 L st h) := rfl
theorem e202_42 : exq sa F N S rt cd202 P Q 42 L st h = (ldI L 2 fun v => P 43 L (.int v :: st) h) := rfl
theorem e202_43 : exq sa F N S rt cd202 P Q 43 L st h = (tI st fun a s => br (a = 0) (P 46 L s h) (P 50 L s h)) := rfl
theorem e202_46 : exq sa F N S rt cd202 P Q 46 L st h = (ldI L 3 fun v => P 47 L (.int v :: st) h) := rfl
theorem e202_47 : exq sa F N S rt cd202 P Q 47 L st h = (P 62 L st h) := rfl
theorem e202_50 : exq sa F N S rt cd202 P Q 50 L st h = (ldR L 0 fun v => P 51 L (v :: st) h) := rfl
theorem e202_51 : exq sa F N S rt cd202 P Q 51 L st h = (tR st fun a s => opt (hO h a 7) fun fs => opt (fs[17]?) fun v => P 54 L (v :: s) h) := rfl
theorem e202_54 : exq sa F N S rt cd202 P Q 54 L st h = (P 55 L (.int (Int32.ofInt (2)) :: st) h) := rfl
theorem e202_55 : exq sa F N S rt cd202 P Q 55 L st h = (ldI L 3 fun v => P 56 L (.int v :: st) h) := rfl
theorem e202_56 : exq sa F N S rt cd202 P Q 56 L st h = (tI st fun b s => tI s fun a s => P 57 L (.int (a + b) :: s) h) := rfl
theorem e202_57 : exq sa F N S rt cd202 P Q 57 L st h = (ald sa st h fun v s => P 58 L (.int v :: s) h) := rfl
theorem e202_58 : exq sa F N S rt cd202 P Q 58 L st h = (ldI L 1 fun v => P 59 L (.int v :: st) h) := rfl
theorem e202_59 : exq sa F N S rt cd202 P Q 59 L st h = (ivS F 165 2 st h fun r s h' => P 62 L (pu r s) h') := rfl
theorem e202_62 : exq sa F N S rt cd202 P Q 62 L st h = (tI st fun v s => s = [] ∧ (rt = some .int ∨ (rt = some .boolean ∧ (v = 0 ∨ v = 1))) ∧ Q (some (.int v)) h) := rfl
theorem e203_0 : exq sa F N S rt cd203 P Q 0 L st h = (P 1 L (.int (Int32.ofInt (1)) :: st) h) := rfl
theorem e203_1 : exq sa F N S rt cd203 P Q 1 L st h = (tI st fun v s => lvS L 5 (.int v) fun L' => P 3 L' s h) := rfl
theorem e203_3 : exq sa F N S rt cd203 P Q 3 L st h = (P 4 L (.int (Int32.ofInt (0)) :: st) h) := rfl
theorem e203_4 : exq sa F N S rt cd203 P Q 4 L st h = (tI st fun v s => lvS L 6 (.int v) fun L' => P 6 L' s h) := rfl
theorem e203_6 : exq sa F N S rt cd203 P Q 6 L st h = (ldI L 6 fun v => P 8 L (.int v :: st) h) := rfl
theorem e203_8 : exq sa F N S rt cd203 P Q 8 L st h = (ldI L 4 fun v => P 10 L (.int v :: st) h) := rfl
theorem e203_10 : exq sa F N S rt cd203 P Q 10 L st h = (tI st fun b s => tI s fun a s => br (b ≤ a) (P 60 L s h) (P 13 L s h)) := rfl
theorem e203_13 : exq sa F N S rt cd203 P Q 13 L st h = (ldR L 0 fun v => P 14 L (v :: st) h) := rfl
theorem e203_14 : exq sa F N S rt cd203 P Q 14 L st h = (ldR L 0 fun v => P 15 L (v :: st) h) := rfl
theorem e203_15 : exq sa F N S rt cd203 P Q 15 L st h = (tR st fun a s => opt (hO h a 7) fun fs => opt (fs[18]?) fun v => P 18 L (v :: s) h) := rfl
theorem e203_18 : exq sa F N S rt cd203 P Q 18 L st h = (ivV F 173 2 7 st h fun r s h' => P 21 L (pu r s) h') := rfl
theorem e203_21 : exq sa F N S rt cd203 P Q 21 L st h = (ldI L 5 fun v => P 23 L (.int v :: st) h) := rfl
theorem e203_23 : exq sa F N S rt cd203 P Q 23 L st h = (tI st fun a s => br (a = 0) (P 51 L s h) (P 26 L s h)) := rfl
theorem e203_26 : exq sa F N S rt cd203 P Q 26 L st h = (ldR L 0 fun v => P 27 L (v :: st) h) := rfl
theorem e203_27 : exq sa F N S rt cd203 P Q 27 L st h = (tR st fun a s => opt (hO h a 7) fun fs => opt (fs[18]?) fun v => P 30 L (v :: s) h) := rfl
theorem e203_30 : exq sa F N S rt cd203 P Q 30 L st h = (P 32 L (.int (Int32.ofInt (19)) :: st) h) := rfl
theorem e203_32 : exq sa F N S rt cd203 P Q 32 L st h = (ldI L 1 fun v => P 33 L (.int v :: st) h) := rfl
theorem e203_33 : exq sa F N S rt cd203 P Q 33 L st h = (tI st fun b s => tI s fun a s => P 34 L (.int (a + b) :: s) h) := rfl
theorem e203_34 : exq sa F N S rt cd203 P Q 34 L st h = (ald sa st h fun v s => P 35 L (.int v :: s) h) := rfl
theorem e203_35 : exq sa F N S rt cd203 P Q 35 L st h = (ldR L 0 fun v => P 36 L (v :: st) h) := rfl
theorem e203_36 : exq sa F N S rt cd203 P Q 36 L st h = (ldI L 2 fun v => P 37 L (.int v :: st) h) := rfl
theorem e203_37 : exq sa F N S rt cd203 P Q 37 L st h = (ldI L 3 fun v => P 38 L (.int v :: st) h) := rfl
theorem e203_38 : exq sa F N S rt cd203 P Q 38 L st h = (ldI L 6 fun v => P 40 L (.int v :: st) h) := rfl
theorem e203_40 : exq sa F N S rt cd203 P Q 40 L st h = (tI st fun b s => tI s fun a s => P 41 L (.int (a + b) :: s) h) := rfl
theorem e203_41 : exq sa F N S rt cd203 P Q 41 L st h = (ivV F 143 3 7 st h fun r s h' => P 44 L (pu r s) h') := rfl
theorem e203_44 : exq sa F N S rt cd203 P Q 44 L st h = (tI st fun b s => tI s fun a s => br (a = b) (P 47 L s h) (P 51 L s h)) := rfl
theorem e203_47 : exq sa F N S rt cd203 P Q 47 L st h = (P 48 L (.int (Int32.ofInt (1)) :: st) h) := rfl
theorem e203_48 : exq sa F N S rt cd203 P Q 48 L st h = (P 52 L st h) := rfl
theorem e203_51 : exq sa F N S rt cd203 P Q 51 L st h = (P 52 L (.int (Int32.ofInt (0)) :: st) h) := rfl
theorem e203_52 : exq sa F N S rt cd203 P Q 52 L st h = (tI st fun v s => lvS L 5 (.int v) fun L' => P 54 L' s h) := rfl
theorem e203_54 : exq sa F N S rt cd203 P Q 54 L st h = (ldI L 6 fun v => lvS L 6 (.int (v + Int32.ofInt (1))) fun L' => P 57 L' st h) := rfl
theorem e203_57 : exq sa F N S rt cd203 P Q 57 L st h = (P 6 L st h) := rfl
theorem e203_60 : exq sa F N S rt cd203 P Q 60 L st h = (ldI L 5 fun v => P 62 L (.int v :: st) h) := rfl
theorem e203_62 : exq sa F N S rt cd203 P Q 62 L st h = (tI st fun v s => s = [] ∧ (rt = some .int ∨ (rt = some .boolean ∧ (v = 0 ∨ v = 1))) ∧ Q (some (.int v)) h) := rfl
theorem e204_0 : exq sa F N S rt cd204 P Q 0 L st h = (ldR L 0 fun v => P 1 L (v :: st) h) := rfl
theorem e204_1 : exq sa F N S rt cd204 P Q 1 L st h = (ldI L 1 fun v => P 2 L (.int v :: st) h) := rfl
theorem e204_2 : exq sa F N S rt cd204 P Q 2 L st h = (ivV F 162 2 7 st h fun r s h' => P 5 L (pu r s) h') := rfl
theorem e204_5 : exq sa F N S rt cd204 P Q 5 L st h = (tI st fun a s => br (a = 0) (P 44 L s h) (P 8 L s h)) := rfl
theorem e204_8 : exq sa F N S rt cd204 P Q 8 L st h = (ldI L 2 fun v => P 9 L (.int v :: st) h) := rfl
theorem e204_9 : exq sa F N S rt cd204 P Q 9 L st h = (P 10 L (.int (Int32.ofInt (0)) :: st) h) := rfl
theorem e204_10 : exq sa F N S rt cd204 P Q 10 L st h = (P 11 L (.int (Int32.ofInt (1)) :: st) h) := rfl
theorem e204_11 : exq sa F N S rt cd204 P Q 11 L st h = (ivS F 135 3 st h fun r s h' => P 14 L (pu r s) h') := rfl
theorem e204_14 : exq sa F N S rt cd204 P Q 14 L st h = (tI st fun a s => br (a = 0) (P 44 L s h) (P 17 L s h)) := rfl
theorem e204_17 : exq sa F N S rt cd204 P Q 17 L st h = (ldR L 0 fun v => P 18 L (v :: st) h) := rfl
theorem e204_18 : exq sa F N S rt cd204 P Q 18 L st h = (ldI L 3 fun v => P 19 L (.int v :: st) h) := rfl
theorem e204_19 : exq sa F N S rt cd204 P Q 19 L st h = (ivV F 162 2 7 st h fun r s h' => P 22 L (pu r s) h') := rfl
theorem e204_22 : exq sa F N S rt cd204 P Q 22 L st h = (tI st fun a s => br (a = 0) (P 44 L s h) (P 25 L s h)) := rfl
theorem e204_25 : exq sa F N S rt cd204 P Q 25 L st h = (ldI L 4 fun v => P 27 L (.int v :: st) h) := rfl
theorem e204_27 : exq sa F N S rt cd204 P Q 27 L st h = (ivS F 141 1 st h fun r s h' => P 30 L (pu r s) h') := rfl
theorem e204_30 : exq sa F N S rt cd204 P Q 30 L st h = (tI st fun a s => br (a = 0) (P 44 L s h) (P 33 L s h)) := rfl
theorem e204_33 : exq sa F N S rt cd204 P Q 33 L st h = (ldI L 6 fun v => P 35 L (.int v :: st) h) := rfl
theorem e204_35 : exq sa F N S rt cd204 P Q 35 L st h = (P 36 L (.int (Int32.ofInt (1)) :: st) h) := rfl
theorem e204_36 : exq sa F N S rt cd204 P Q 36 L st h = (P 38 L (.int (Int32.ofInt (12)) :: st) h) := rfl
theorem e204_38 : exq sa F N S rt cd204 P Q 38 L st h = (ivS F 135 3 st h fun r s h' => P 41 L (pu r s) h') := rfl
theorem e204_41 : exq sa F N S rt cd204 P Q 41 L st h = (tI st fun a s => br (a = 0) (P 44 L s h) (P 47 L s h)) := rfl
theorem e204_44 : exq sa F N S rt cd204 P Q 44 L st h = (P 46 L (.int (Int32.ofInt (-1000001)) :: st) h) := rfl
theorem e204_46 : exq sa F N S rt cd204 P Q 46 L st h = (tI st fun v s => s = [] ∧ (rt = some .int ∨ (rt = some .boolean ∧ (v = 0 ∨ v = 1))) ∧ Q (some (.int v)) h) := rfl
theorem e204_47 : exq sa F N S rt cd204 P Q 47 L st h = (ldR L 0 fun v => P 48 L (v :: st) h) := rfl
theorem e204_48 : exq sa F N S rt cd204 P Q 48 L st h = (tR st fun a s => opt (hO h a 7) fun fs => opt (fs[17]?) fun v => P 51 L (v :: s) h) := rfl
theorem e204_51 : exq sa F N S rt cd204 P Q 51 L st h = (P 53 L (.int (Int32.ofInt (24)) :: st) h) := rfl
theorem e204_53 : exq sa F N S rt cd204 P Q 53 L st h = (ldI L 1 fun v => P 54 L (.int v :: st) h) := rfl
theorem e204_54 : exq sa F N S rt cd204 P Q 54 L st h = (tI st fun b s => tI s fun a s => P 55 L (.int (a + b) :: s) h) := rfl
theorem e204_55 : exq sa F N S rt cd204 P Q 55 L st h = (ald sa st h fun v s => P 56 L (.int v :: s) h) := rfl
theorem e204_56 : exq sa F N S rt cd204 P Q 56 L st h = (P 57 L (.int (Int32.ofInt (2)) :: st) h) := rfl
theorem e204_57 : exq sa F N S rt cd204 P Q 57 L st h = (tI st fun b s => tI s fun a s => br (a = b) (P 60 L s h) (P 63 L s h)) := rfl
theorem e204_60 : exq sa F N S rt cd204 P Q 60 L st h = (P 62 L (.int (Int32.ofInt (-1000002)) :: st) h) := rfl
theorem e204_62 : exq sa F N S rt cd204 P Q 62 L st h = (tI st fun v s => s = [] ∧ (rt = some .int ∨ (rt = some .boolean ∧ (v = 0 ∨ v = 1))) ∧ Q (some (.int v)) h) := rfl
theorem e204_63 : exq sa F N S rt cd204 P Q 63 L st h = (ldR L 0 fun v => P 64 L (v :: st) h) := rfl
theorem e204_64 : exq sa F N S rt cd204 P Q 64 L st h = (tR st fun a s => opt (hO h a 7) fun fs => opt (fs[0]?) fun v => P 67 L (v :: s) h) := rfl
theorem e204_67 : exq sa F N S rt cd204 P Q 67 L st h = (ldI L 4 fun v => P 69 L (.int v :: st) h) := rfl
theorem e204_69 : exq sa F N S rt cd204 P Q 69 L st h = (ald sa st h fun v s => P 70 L (.int v :: s) h) := rfl
theorem e204_70 : exq sa F N S rt cd204 P Q 70 L st h = (tI st fun a s => br (0 ≤ a) (P 79 L s h) (P 73 L s h)) := rfl
theorem e204_73 : exq sa F N S rt cd204 P Q 73 L st h = (ldR L 0 fun v => P 74 L (v :: st) h) := rfl
theorem e204_74 : exq sa F N S rt cd204 P Q 74 L st h = (P 75 L (.int (Int32.ofInt (1)) :: st) h) := rfl
theorem e204_75 : exq sa F N S rt cd204 P Q 75 L st h = (ivV F 138 2 7 st h fun r s h' => P 78 L (pu r s) h') := rfl
theorem e204_78 : exq sa F N S rt cd204 P Q 78 L st h = (tI st fun v s => s = [] ∧ (rt = some .int ∨ (rt = some .boolean ∧ (v = 0 ∨ v = 1))) ∧ Q (some (.int v)) h) := rfl
theorem e204_79 : exq sa F N S rt cd204 P Q 79 L st h = (ldR L 0 fun v => P 80 L (v :: st) h) := rfl
theorem e204_80 : exq sa F N S rt cd204 P Q 80 L st h = (ldI L 4 fun v => P 82 L (.int v :: st) h) := rfl
theorem e204_82 : exq sa F N S rt cd204 P Q 82 L st h = (ldI L 5 fun v => P 84 L (.int v :: st) h) := rfl
theorem e204_84 : exq sa F N S rt cd204 P Q 84 L st h = (ldI L 6 fun v => P 86 L (.int v :: st) h) := rfl
theorem e204_86 : exq sa F N S rt cd204 P Q 86 L st h = (ivV F 142 4 7 st h fun r s h' => P 89 L (pu r s) h') := rfl
theorem e204_89 : exq sa F N S rt cd204 P Q 89 L st h = (tI st fun a s => br (a = 0) (P 92 L s h) (P 98 L s h)) := rfl
theorem e204_92 : exq sa F N S rt cd204 P Q 92 L st h = (ldR L 0 fun v => P 93 L (v :: st) h) := rfl
theorem e204_93 : exq sa F N S rt cd204 P Q 93 L st h = (P 94 L (.int (Int32.ofInt (2)) :: st) h) := rfl
theorem e204_94 : exq sa F N S rt cd204 P Q 94 L st h = (ivV F 138 2 7 st h fun r s h' => P 97 L (pu r s) h') := rfl
theorem e204_97 : exq sa F N S rt cd204 P Q 97 L st h = (tI st fun v s => s = [] ∧ (rt = some .int ∨ (rt = some .boolean ∧ (v = 0 ∨ v = 1))) ∧ Q (some (.int v)) h) := rfl
theorem e204_98 : exq sa F N S rt cd204 P Q 98 L st h = (ldR L 0 fun v => P 99 L (v :: st) h) := rfl
theorem e204_99 : exq sa F N S rt cd204 P Q 99 L st h = (tR st fun a s => opt (hO h a 7) fun fs => opt (fs[16]?) fun v => P 102 L (v :: s) h) := rfl
theorem e204_102 : exq sa F N S rt cd204 P Q 102 L st h = (P 103 L (.int (Int32.ofInt (4)) :: st) h) := rfl
theorem e204_103 : exq sa F N S rt cd204 P Q 103 L st h = (ldI L 1 fun v => P 104 L (.int v :: st) h) := rfl
theorem e204_104 : exq sa F N S rt cd204 P Q 104 L st h = (tI st fun b s => tI s fun a s => P 105 L (.int (a + b) :: s) h) := rfl
theorem e204_105 : exq sa F N S rt cd204 P Q 105 L st h = (ald sa st h fun v s => P 106 L (.int v :: s) h) := rfl
theorem e204_106 : exq sa F N S rt cd204 P Q 106 L st h = (tI st fun v s => lvS L 7 (.int v) fun L' => P 108 L' s h) := rfl
theorem e204_108 : exq sa F N S rt cd204 P Q 108 L st h = (P 109 L (.int (Int32.ofInt (0)) :: st) h) := rfl
theorem e204_109 : exq sa F N S rt cd204 P Q 109 L st h = (tI st fun v s => lvS L 8 (.int v) fun L' => P 111 L' s h) := rfl
theorem e204_111 : exq sa F N S rt cd204 P Q 111 L st h = (ldI L 2 fun v => P 112 L (.int v :: st) h) := rfl
theorem e204_112 : exq sa F N S rt cd204 P Q 112 L st h = (tI st fun a s => br (a = 0) (P 115 L s h) (P 119 L s h)) := rfl
theorem e204_115 : exq sa F N S rt cd204 P Q 115 L st h = (P 116 L (.int (Int32.ofInt (1)) :: st) h) := rfl
theorem e204_116 : exq sa F N S rt cd204 P Q 116 L st h = (P 120 L st h) := rfl
theorem e204_119 : exq sa F N S rt cd204 P Q 119 L st h = (P 120 L (.int (Int32.ofInt (0)) :: st) h) := rfl
theorem e204_120 : exq sa F N S rt cd204 P Q 120 L st h = (tI st fun v s => lvS L 9 (.int v) fun L' => P 122 L' s h) := rfl
theorem e204_122 : exq sa F N S rt cd204 P Q 122 L st h = (ldI L 9 fun v => P 124 L (.int v :: st) h) := rfl
theorem e204_124 : exq sa F N S rt cd204 P Q 124 L st h = (ldI L 2 fun v => P 125 L (.int v :: st) h) := rfl
theorem e204_125 : exq sa F N S rt cd204 P Q 125 L st h = (tI st fun a s => br (a = 0) (P 128 L s h) (P 132 L s h)) := rfl
theorem e204_128 : exq sa F N S rt cd204 P Q 128 L st h = (P 129 L (.int (Int32.ofInt (5)) :: st) h) := rfl
theorem e204_129 : exq sa F N S rt cd204 P Q 129 L st h = (P 134 L st h) := rfl
theorem e204_132 : exq sa F N S rt cd204 P Q 132 L st h = (P 134 L (.int (Int32.ofInt (9)) :: st) h) := rfl
theorem e204_134 : exq sa F N S rt cd204 P Q 134 L st h = (tI st fun b s => tI s fun a s => br (b < a) (P 220 L s h) (P 137 L s h)) := rfl
theorem e204_137 : exq sa F N S rt cd204 P Q 137 L st h = (ldR L 0 fun v => P 138 L (v :: st) h) := rfl
theorem e204_138 : exq sa F N S rt cd204 P Q 138 L st h = (ivV F 189 1 7 st h fun r s h' => P 141 L (pu r s) h') := rfl
theorem e204_141 : exq sa F N S rt cd204 P Q 141 L st h = (ldR L 0 fun v => P 142 L (v :: st) h) := rfl
theorem e204_142 : exq sa F N S rt cd204 P Q 142 L st h = (tR st fun a s => opt (hO h a 7) fun fs => opt (fs[16]?) fun v => P 145 L (v :: s) h) := rfl
theorem e204_145 : exq sa F N S rt cd204 P Q 145 L st h = (P 146 L (.int (Int32.ofInt (4)) :: st) h) := rfl
theorem e204_146 : exq sa F N S rt cd204 P Q 146 L st h = (ldI L 1 fun v => P 147 L (.int v :: st) h) := rfl
theorem e204_147 : exq sa F N S rt cd204 P Q 147 L st h = (tI st fun b s => tI s fun a s => P 148 L (.int (a + b) :: s) h) := rfl
theorem e204_148 : exq sa F N S rt cd204 P Q 148 L st h = (ldI L 2 fun v => P 149 L (.int v :: st) h) := rfl
theorem e204_149 : exq sa F N S rt cd204 P Q 149 L st h = (tI st fun a s => br (a = 0) (P 152 L s h) (P 157 L s h)) := rfl
theorem e204_152 : exq sa F N S rt cd204 P Q 152 L st h = (ldI L 9 fun v => P 154 L (.int v :: st) h) := rfl
theorem e204_154 : exq sa F N S rt cd204 P Q 154 L st h = (P 159 L st h) := rfl
theorem e204_157 : exq sa F N S rt cd204 P Q 157 L st h = (ldI L 7 fun v => P 159 L (.int v :: st) h) := rfl
theorem e204_159 : exq sa F N S rt cd204 P Q 159 L st h = (tI st fun v s => tI s fun i s => tR s fun a s => opt (hI h a) fun q => ix i q.1 fun k => P 160 L s (hS h a (.inl (0, q.1, .inl (upd q.2 k v))))) := rfl
theorem e204_160 : exq sa F N S rt cd204 P Q 160 L st h = (ldR L 0 fun v => P 161 L (v :: st) h) := rfl
theorem e204_161 : exq sa F N S rt cd204 P Q 161 L st h = (tR st fun a s => opt (hO h a 7) fun fs => opt (fs[18]?) fun v => P 164 L (v :: s) h) := rfl
theorem e204_164 : exq sa F N S rt cd204 P Q 164 L st h = (P 166 L (.int (Int32.ofInt (14)) :: st) h) := rfl
theorem e204_166 : exq sa F N S rt cd204 P Q 166 L st h = (ldI L 1 fun v => P 167 L (.int v :: st) h) := rfl
theorem e204_167 : exq sa F N S rt cd204 P Q 167 L st h = (tI st fun b s => tI s fun a s => P 168 L (.int (a + b) :: s) h) := rfl
theorem e204_168 : exq sa F N S rt cd204 P Q 168 L st h = (ldI L 2 fun v => P 169 L (.int v :: st) h) := rfl
theorem e204_169 : exq sa F N S rt cd204 P Q 169 L st h = (tI st fun a s => br (a = 0) (P 172 L s h) (P 184 L s h)) := rfl
theorem e204_172 : exq sa F N S rt cd204 P Q 172 L st h = (ldR L 0 fun v => P 173 L (v :: st) h) := rfl
theorem e204_173 : exq sa F N S rt cd204 P Q 173 L st h = (tR st fun a s => opt (hO h a 7) fun fs => opt (fs[18]?) fun v => P 176 L (v :: s) h) := rfl
theorem e204_176 : exq sa F N S rt cd204 P Q 176 L st h = (P 178 L (.int (Int32.ofInt (14)) :: st) h) := rfl
theorem e204_178 : exq sa F N S rt cd204 P Q 178 L st h = (ldI L 1 fun v => P 179 L (.int v :: st) h) := rfl
theorem e204_179 : exq sa F N S rt cd204 P Q 179 L st h = (tI st fun b s => tI s fun a s => P 180 L (.int (a + b) :: s) h) := rfl
theorem e204_180 : exq sa F N S rt cd204 P Q 180 L st h = (ald sa st h fun v s => P 181 L (.int v :: s) h) := rfl
theorem e204_181 : exq sa F N S rt cd204 P Q 181 L st h = (P 186 L st h) := rfl
theorem e204_184 : exq sa F N S rt cd204 P Q 184 L st h = (ldI L 9 fun v => P 186 L (.int v :: st) h) := rfl
theorem e204_186 : exq sa F N S rt cd204 P Q 186 L st h = (tI st fun v s => tI s fun i s => tR s fun a s => opt (hI h a) fun q => ix i q.1 fun k => P 187 L s (hS h a (.inl (0, q.1, .inl (upd q.2 k v))))) := rfl
theorem e204_187 : exq sa F N S rt cd204 P Q 187 L st h = (ldI L 8 fun v => P 189 L (.int v :: st) h) := rfl
theorem e204_189 : exq sa F N S rt cd204 P Q 189 L st h = (ldR L 0 fun v => P 190 L (v :: st) h) := rfl
theorem e204_190 : exq sa F N S rt cd204 P Q 190 L st h = (ldI L 3 fun v => P 191 L (.int v :: st) h) := rfl
theorem e204_191 : exq sa F N S rt cd204 P Q 191 L st h = (ldI L 4 fun v => P 193 L (.int v :: st) h) := rfl
theorem e204_193 : exq sa F N S rt cd204 P Q 193 L st h = (ldI L 5 fun v => P 195 L (.int v :: st) h) := rfl
theorem e204_195 : exq sa F N S rt cd204 P Q 195 L st h = (ldI L 6 fun v => P 197 L (.int v :: st) h) := rfl
theorem e204_197 : exq sa F N S rt cd204 P Q 197 L st h = (ivV F 203 5 7 st h fun r s h' => P 200 L (pu r s) h') := rfl
theorem e204_200 : exq sa F N S rt cd204 P Q 200 L st h = (tI st fun a s => br (a = 0) (P 210 L s h) (P 203 L s h)) := rfl
theorem e204_203 : exq sa F N S rt cd204 P Q 203 L st h = (P 204 L (.int (Int32.ofInt (1)) :: st) h) := rfl
theorem e204_204 : exq sa F N S rt cd204 P Q 204 L st h = (ldI L 9 fun v => P 206 L (.int v :: st) h) := rfl
theorem e204_206 : exq sa F N S rt cd204 P Q 206 L st h = (tI st fun b s => tI s fun a s => P 207 L (.int (a <<< (b &&& 31)) :: s) h) := rfl
theorem e204_207 : exq sa F N S rt cd204 P Q 207 L st h = (P 211 L st h) := rfl
theorem e204_210 : exq sa F N S rt cd204 P Q 210 L st h = (P 211 L (.int (Int32.ofInt (0)) :: st) h) := rfl
theorem e204_211 : exq sa F N S rt cd204 P Q 211 L st h = (tI st fun b s => tI s fun a s => P 212 L (.int (a ||| b) :: s) h) := rfl
theorem e204_212 : exq sa F N S rt cd204 P Q 212 L st h = (tI st fun v s => lvS L 8 (.int v) fun L' => P 214 L' s h) := rfl
theorem e204_214 : exq sa F N S rt cd204 P Q 214 L st h = (ldI L 9 fun v => lvS L 9 (.int (v + Int32.ofInt (1))) fun L' => P 217 L' st h) := rfl
theorem e204_217 : exq sa F N S rt cd204 P Q 217 L st h = (P 122 L st h) := rfl
theorem e204_220 : exq sa F N S rt cd204 P Q 220 L st h = (ldR L 0 fun v => P 221 L (v :: st) h) := rfl
theorem e204_221 : exq sa F N S rt cd204 P Q 221 L st h = (tR st fun a s => opt (hO h a 7) fun fs => opt (fs[16]?) fun v => P 224 L (v :: s) h) := rfl
theorem e204_224 : exq sa F N S rt cd204 P Q 224 L st h = (P 225 L (.int (Int32.ofInt (4)) :: st) h) := rfl
theorem e204_225 : exq sa F N S rt cd204 P Q 225 L st h = (ldI L 1 fun v => P 226 L (.int v :: st) h) := rfl
theorem e204_226 : exq sa F N S rt cd204 P Q 226 L st h = (tI st fun b s => tI s fun a s => P 227 L (.int (a + b) :: s) h) := rfl
theorem e204_227 : exq sa F N S rt cd204 P Q 227 L st h = (ldI L 7 fun v => P 229 L (.int v :: st) h) := rfl
theorem e204_229 : exq sa F N S rt cd204 P Q 229 L st h = (tI st fun v s => tI s fun i s => tR s fun a s => opt (hI h a) fun q => ix i q.1 fun k => P 230 L s (hS h a (.inl (0, q.1, .inl (upd q.2 k v))))) := rfl
theorem e204_230 : exq sa F N S rt cd204 P Q 230 L st h = (ldR L 0 fun v => P 231 L (v :: st) h) := rfl
theorem e204_231 : exq sa F N S rt cd204 P Q 231 L st h = (ldI L 8 fun v => P 233 L (.int v :: st) h) := rfl
theorem e204_233 : exq sa F N S rt cd204 P Q 233 L st h = (ivV F 139 2 7 st h fun r s h' => P 236 L (pu r s) h') := rfl
theorem e204_236 : exq sa F N S rt cd204 P Q 236 L st h = (tI st fun v s => s = [] ∧ (rt = some .int ∨ (rt = some .boolean ∧ (v = 0 ∨ v = 1))) ∧ Q (some (.int v)) h) := rfl
theorem e205_0 : exq sa F N S rt cd205 P Q 0 L st h = (ldR L 0 fun v => P 1 L (v :: st) h) := rfl
theorem e205_1 : exq sa F N S rt cd205 P Q 1 L st h = (ldI L 1 fun v => P 2 L (.int v :: st) h) := rfl
theorem e205_2 : exq sa F N S rt cd205 P Q 2 L st h = (ivV F 163 2 7 st h fun r s h' => P 5 L (pu r s) h') := rfl
theorem e205_5 : exq sa F N S rt cd205 P Q 5 L st h = (tI st fun a s => br (a = 0) (P 44 L s h) (P 8 L s h)) := rfl
theorem e205_8 : exq sa F N S rt cd205 P Q 8 L st h = (ldI L 2 fun v => P 9 L (.int v :: st) h) := rfl
theorem e205_9 : exq sa F N S rt cd205 P Q 9 L st h = (P 10 L (.int (Int32.ofInt (0)) :: st) h) := rfl
theorem e205_10 : exq sa F N S rt cd205 P Q 10 L st h = (P 11 L (.int (Int32.ofInt (1)) :: st) h) := rfl
theorem e205_11 : exq sa F N S rt cd205 P Q 11 L st h = (ivS F 135 3 st h fun r s h' => P 14 L (pu r s) h') := rfl
theorem e205_14 : exq sa F N S rt cd205 P Q 14 L st h = (tI st fun a s => br (a = 0) (P 44 L s h) (P 17 L s h)) := rfl
theorem e205_17 : exq sa F N S rt cd205 P Q 17 L st h = (ldR L 0 fun v => P 18 L (v :: st) h) := rfl
theorem e205_18 : exq sa F N S rt cd205 P Q 18 L st h = (ldI L 3 fun v => P 19 L (.int v :: st) h) := rfl
theorem e205_19 : exq sa F N S rt cd205 P Q 19 L st h = (ivV F 162 2 7 st h fun r s h' => P 22 L (pu r s) h') := rfl
theorem e205_22 : exq sa F N S rt cd205 P Q 22 L st h = (tI st fun a s => br (a = 0) (P 44 L s h) (P 25 L s h)) := rfl
theorem e205_25 : exq sa F N S rt cd205 P Q 25 L st h = (ldI L 4 fun v => P 27 L (.int v :: st) h) := rfl
theorem e205_27 : exq sa F N S rt cd205 P Q 27 L st h = (ivS F 141 1 st h fun r s h' => P 30 L (pu r s) h') := rfl
theorem e205_30 : exq sa F N S rt cd205 P Q 30 L st h = (tI st fun a s => br (a = 0) (P 44 L s h) (P 33 L s h)) := rfl
theorem e205_33 : exq sa F N S rt cd205 P Q 33 L st h = (ldI L 6 fun v => P 35 L (.int v :: st) h) := rfl
theorem e205_35 : exq sa F N S rt cd205 P Q 35 L st h = (P 36 L (.int (Int32.ofInt (1)) :: st) h) := rfl
theorem e205_36 : exq sa F N S rt cd205 P Q 36 L st h = (P 38 L (.int (Int32.ofInt (12)) :: st) h) := rfl
theorem e205_38 : exq sa F N S rt cd205 P Q 38 L st h = (ivS F 135 3 st h fun r s h' => P 41 L (pu r s) h') := rfl
theorem e205_41 : exq sa F N S rt cd205 P Q 41 L st h = (tI st fun a s => br (a = 0) (P 44 L s h) (P 47 L s h)) := rfl
theorem e205_44 : exq sa F N S rt cd205 P Q 44 L st h = (P 46 L (.int (Int32.ofInt (-1000001)) :: st) h) := rfl
theorem e205_46 : exq sa F N S rt cd205 P Q 46 L st h = (tI st fun v s => s = [] ∧ (rt = some .int ∨ (rt = some .boolean ∧ (v = 0 ∨ v = 1))) ∧ Q (some (.int v)) h) := rfl
theorem e205_47 : exq sa F N S rt cd205 P Q 47 L st h = (ldR L 0 fun v => P 48 L (v :: st) h) := rfl
theorem e205_48 : exq sa F N S rt cd205 P Q 48 L st h = (tR st fun a s => opt (hO h a 7) fun fs => opt (fs[17]?) fun v => P 51 L (v :: s) h) := rfl
theorem e205_51 : exq sa F N S rt cd205 P Q 51 L st h = (P 52 L (.int (Int32.ofInt (1)) :: st) h) := rfl
theorem e205_52 : exq sa F N S rt cd205 P Q 52 L st h = (ald sa st h fun v s => P 53 L (.int v :: s) h) := rfl
theorem e205_53 : exq sa F N S rt cd205 P Q 53 L st h = (ldI L 1 fun v => P 54 L (.int v :: st) h) := rfl
theorem e205_54 : exq sa F N S rt cd205 P Q 54 L st h = (ivS F 136 2 st h fun r s h' => P 57 L (pu r s) h') := rfl
theorem e205_57 : exq sa F N S rt cd205 P Q 57 L st h = (tI st fun a s => br (a = 0) (P 63 L s h) (P 60 L s h)) := rfl
theorem e205_60 : exq sa F N S rt cd205 P Q 60 L st h = (P 62 L (.int (Int32.ofInt (-1000002)) :: st) h) := rfl
theorem e205_62 : exq sa F N S rt cd205 P Q 62 L st h = (tI st fun v s => s = [] ∧ (rt = some .int ∨ (rt = some .boolean ∧ (v = 0 ∨ v = 1))) ∧ Q (some (.int v)) h) := rfl
theorem e205_63 : exq sa F N S rt cd205 P Q 63 L st h = (ldR L 0 fun v => P 64 L (v :: st) h) := rfl
theorem e205_64 : exq sa F N S rt cd205 P Q 64 L st h = (tR st fun a s => opt (hO h a 7) fun fs => opt (fs[0]?) fun v => P 67 L (v :: s) h) := rfl
theorem e205_67 : exq sa F N S rt cd205 P Q 67 L st h = (ldI L 4 fun v => P 69 L (.int v :: st) h) := rfl
theorem e205_69 : exq sa F N S rt cd205 P Q 69 L st h = (ald sa st h fun v s => P 70 L (.int v :: s) h) := rfl
theorem e205_70 : exq sa F N S rt cd205 P Q 70 L st h = (tI st fun a s => br (0 ≤ a) (P 79 L s h) (P 73 L s h)) := rfl
theorem e205_73 : exq sa F N S rt cd205 P Q 73 L st h = (ldR L 0 fun v => P 74 L (v :: st) h) := rfl
theorem e205_74 : exq sa F N S rt cd205 P Q 74 L st h = (P 75 L (.int (Int32.ofInt (1)) :: st) h) := rfl
theorem e205_75 : exq sa F N S rt cd205 P Q 75 L st h = (ivV F 138 2 7 st h fun r s h' => P 78 L (pu r s) h') := rfl
theorem e205_78 : exq sa F N S rt cd205 P Q 78 L st h = (tI st fun v s => s = [] ∧ (rt = some .int ∨ (rt = some .boolean ∧ (v = 0 ∨ v = 1))) ∧ Q (some (.int v)) h) := rfl
theorem e205_79 : exq sa F N S rt cd205 P Q 79 L st h = (ldR L 0 fun v => P 80 L (v :: st) h) := rfl
theorem e205_80 : exq sa F N S rt cd205 P Q 80 L st h = (ldI L 4 fun v => P 82 L (.int v :: st) h) := rfl
theorem e205_82 : exq sa F N S rt cd205 P Q 82 L st h = (ldI L 5 fun v => P 84 L (.int v :: st) h) := rfl
theorem e205_84 : exq sa F N S rt cd205 P Q 84 L st h = (ldI L 6 fun v => P 86 L (.int v :: st) h) := rfl
theorem e205_86 : exq sa F N S rt cd205 P Q 86 L st h = (ivV F 142 4 7 st h fun r s h' => P 89 L (pu r s) h') := rfl
theorem e205_89 : exq sa F N S rt cd205 P Q 89 L st h = (tI st fun a s => br (a = 0) (P 92 L s h) (P 98 L s h)) := rfl
theorem e205_92 : exq sa F N S rt cd205 P Q 92 L st h = (ldR L 0 fun v => P 93 L (v :: st) h) := rfl
theorem e205_93 : exq sa F N S rt cd205 P Q 93 L st h = (P 94 L (.int (Int32.ofInt (2)) :: st) h) := rfl
theorem e205_94 : exq sa F N S rt cd205 P Q 94 L st h = (ivV F 138 2 7 st h fun r s h' => P 97 L (pu r s) h') := rfl
theorem e205_97 : exq sa F N S rt cd205 P Q 97 L st h = (tI st fun v s => s = [] ∧ (rt = some .int ∨ (rt = some .boolean ∧ (v = 0 ∨ v = 1))) ∧ Q (some (.int v)) h) := rfl
theorem e205_98 : exq sa F N S rt cd205 P Q 98 L st h = (P 99 L (.int (Int32.ofInt (0)) :: st) h) := rfl
theorem e205_99 : exq sa F N S rt cd205 P Q 99 L st h = (tI st fun v s => lvS L 7 (.int v) fun L' => P 101 L' s h) := rfl
theorem e205_101 : exq sa F N S rt cd205 P Q 101 L st h = (P 102 L (.int (Int32.ofInt (0)) :: st) h) := rfl
theorem e205_102 : exq sa F N S rt cd205 P Q 102 L st h = (tI st fun v s => lvS L 8 (.int v) fun L' => P 104 L' s h) := rfl
theorem e205_104 : exq sa F N S rt cd205 P Q 104 L st h = (ldI L 8 fun v => P 106 L (.int v :: st) h) := rfl
theorem e205_106 : exq sa F N S rt cd205 P Q 106 L st h = (ldI L 2 fun v => P 107 L (.int v :: st) h) := rfl
theorem e205_107 : exq sa F N S rt cd205 P Q 107 L st h = (tI st fun a s => br (a = 0) (P 110 L s h) (P 114 L s h)) := rfl
theorem e205_110 : exq sa F N S rt cd205 P Q 110 L st h = (P 111 L (.int (Int32.ofInt (3)) :: st) h) := rfl
theorem e205_111 : exq sa F N S rt cd205 P Q 111 L st h = (P 120 L st h) := rfl
theorem e205_114 : exq sa F N S rt cd205 P Q 114 L st h = (ldR L 0 fun v => P 115 L (v :: st) h) := rfl
theorem e205_115 : exq sa F N S rt cd205 P Q 115 L st h = (tR st fun a s => opt (hO h a 7) fun fs => opt (fs[16]?) fun v => P 118 L (v :: s) h) := rfl
theorem e205_118 : exq sa F N S rt cd205 P Q 118 L st h = (P 119 L (.int (Int32.ofInt (2)) :: st) h) := rfl
theorem e205_119 : exq sa F N S rt cd205 P Q 119 L st h = (ald sa st h fun v s => P 120 L (.int v :: s) h) := rfl
theorem e205_120 : exq sa F N S rt cd205 P Q 120 L st h = (tI st fun b s => tI s fun a s => br (b ≤ a) (P 181 L s h) (P 123 L s h)) := rfl
theorem e205_123 : exq sa F N S rt cd205 P Q 123 L st h = (ldR L 0 fun v => P 124 L (v :: st) h) := rfl
theorem e205_124 : exq sa F N S rt cd205 P Q 124 L st h = (ivV F 189 1 7 st h fun r s h' => P 127 L (pu r s) h') := rfl
theorem e205_127 : exq sa F N S rt cd205 P Q 127 L st h = (ldR L 0 fun v => P 128 L (v :: st) h) := rfl
theorem e205_128 : exq sa F N S rt cd205 P Q 128 L st h = (tR st fun a s => opt (hO h a 7) fun fs => opt (fs[18]?) fun v => P 131 L (v :: s) h) := rfl
theorem e205_131 : exq sa F N S rt cd205 P Q 131 L st h = (ldI L 2 fun v => P 132 L (.int v :: st) h) := rfl
theorem e205_132 : exq sa F N S rt cd205 P Q 132 L st h = (tI st fun a s => br (a = 0) (P 135 L s h) (P 142 L s h)) := rfl
theorem e205_135 : exq sa F N S rt cd205 P Q 135 L st h = (P 137 L (.int (Int32.ofInt (8)) :: st) h) := rfl
theorem e205_137 : exq sa F N S rt cd205 P Q 137 L st h = (ldI L 1 fun v => P 138 L (.int v :: st) h) := rfl
theorem e205_138 : exq sa F N S rt cd205 P Q 138 L st h = (tI st fun b s => tI s fun a s => P 139 L (.int (a + b) :: s) h) := rfl
theorem e205_139 : exq sa F N S rt cd205 P Q 139 L st h = (P 145 L st h) := rfl
theorem e205_142 : exq sa F N S rt cd205 P Q 142 L st h = (P 143 L (.int (Int32.ofInt (2)) :: st) h) := rfl
theorem e205_143 : exq sa F N S rt cd205 P Q 143 L st h = (ldI L 1 fun v => P 144 L (.int v :: st) h) := rfl
theorem e205_144 : exq sa F N S rt cd205 P Q 144 L st h = (tI st fun b s => tI s fun a s => P 145 L (.int (a + b) :: s) h) := rfl
theorem e205_145 : exq sa F N S rt cd205 P Q 145 L st h = (ldI L 8 fun v => P 147 L (.int v :: st) h) := rfl
theorem e205_147 : exq sa F N S rt cd205 P Q 147 L st h = (tI st fun v s => tI s fun i s => tR s fun a s => opt (hI h a) fun q => ix i q.1 fun k => P 148 L s (hS h a (.inl (0, q.1, .inl (upd q.2 k v))))) := rfl
theorem e205_148 : exq sa F N S rt cd205 P Q 148 L st h = (ldI L 7 fun v => P 150 L (.int v :: st) h) := rfl
theorem e205_150 : exq sa F N S rt cd205 P Q 150 L st h = (ldR L 0 fun v => P 151 L (v :: st) h) := rfl
theorem e205_151 : exq sa F N S rt cd205 P Q 151 L st h = (ldI L 3 fun v => P 152 L (.int v :: st) h) := rfl
theorem e205_152 : exq sa F N S rt cd205 P Q 152 L st h = (ldI L 4 fun v => P 154 L (.int v :: st) h) := rfl
theorem e205_154 : exq sa F N S rt cd205 P Q 154 L st h = (ldI L 5 fun v => P 156 L (.int v :: st) h) := rfl
theorem e205_156 : exq sa F N S rt cd205 P Q 156 L st h = (ldI L 6 fun v => P 158 L (.int v :: st) h) := rfl
theorem e205_158 : exq sa F N S rt cd205 P Q 158 L st h = (ivV F 203 5 7 st h fun r s h' => P 161 L (pu r s) h') := rfl
theorem e205_161 : exq sa F N S rt cd205 P Q 161 L st h = (tI st fun a s => br (a = 0) (P 171 L s h) (P 164 L s h)) := rfl
theorem e205_164 : exq sa F N S rt cd205 P Q 164 L st h = (P 165 L (.int (Int32.ofInt (1)) :: st) h) := rfl
theorem e205_165 : exq sa F N S rt cd205 P Q 165 L st h = (ldI L 8 fun v => P 167 L (.int v :: st) h) := rfl
theorem e205_167 : exq sa F N S rt cd205 P Q 167 L st h = (tI st fun b s => tI s fun a s => P 168 L (.int (a <<< (b &&& 31)) :: s) h) := rfl
theorem e205_168 : exq sa F N S rt cd205 P Q 168 L st h = (P 172 L st h) := rfl
theorem e205_171 : exq sa F N S rt cd205 P Q 171 L st h = (P 172 L (.int (Int32.ofInt (0)) :: st) h) := rfl
theorem e205_172 : exq sa F N S rt cd205 P Q 172 L st h = (tI st fun b s => tI s fun a s => P 173 L (.int (a ||| b) :: s) h) := rfl
theorem e205_173 : exq sa F N S rt cd205 P Q 173 L st h = (tI st fun v s => lvS L 7 (.int v) fun L' => P 175 L' s h) := rfl
theorem e205_175 : exq sa F N S rt cd205 P Q 175 L st h = (ldI L 8 fun v => lvS L 8 (.int (v + Int32.ofInt (1))) fun L' => P 178 L' st h) := rfl
theorem e205_178 : exq sa F N S rt cd205 P Q 178 L st h = (P 104 L st h) := rfl
theorem e205_181 : exq sa F N S rt cd205 P Q 181 L st h = (ldR L 0 fun v => P 182 L (v :: st) h) := rfl
theorem e205_182 : exq sa F N S rt cd205 P Q 182 L st h = (ldI L 7 fun v => P 184 L (.int v :: st) h) := rfl
theorem e205_184 : exq sa F N S rt cd205 P Q 184 L st h = (ivV F 139 2 7 st h fun r s h' => P 187 L (pu r s) h') := rfl
theorem e205_187 : exq sa F N S rt cd205 P Q 187 L st h = (tI st fun v s => s = [] ∧ (rt = some .int ∨ (rt = some .boolean ∧ (v = 0 ∨ v = 1))) ∧ Q (some (.int v)) h) := rfl
theorem e206_0 : exq sa F N S rt cd206 P Q 0 L st h = (ldJ L 0 fun v => P 1 L (.long v :: st) h) := rfl
theorem e206_1 : exq sa F N S rt cd206 P Q 1 L st h = (tJ st fun v s => lvS2 L 4 (.long v) fun L' => P 3 L' s h) := rfl
theorem e206_3 : exq sa F N S rt cd206 P Q 3 L st h = (ldJ L 2 fun v => P 4 L (.long v :: st) h) := rfl
theorem e206_4 : exq sa F N S rt cd206 P Q 4 L st h = (tJ st fun v s => lvS2 L 6 (.long v) fun L' => P 6 L' s h) := rfl
theorem e206_6 : exq sa F N S rt cd206 P Q 6 L st h = (ldJ L 6 fun v => P 8 L (.long v :: st) h) := rfl
theorem e206_8 : exq sa F N S rt cd206 P Q 8 L st h = (P 9 L (.long (Int64.ofInt 0) :: st) h) := rfl
theorem e206_9 : exq sa F N S rt cd206 P Q 9 L st h = (tJ st fun b s => tJ s fun a s => P 10 L (.int (lg_cmp a b) :: s) h) := rfl
theorem e206_10 : exq sa F N S rt cd206 P Q 10 L st h = (tI st fun a s => br (a = 0) (P 31 L s h) (P 13 L s h)) := rfl
theorem e206_13 : exq sa F N S rt cd206 P Q 13 L st h = (ldJ L 4 fun v => P 15 L (.long v :: st) h) := rfl
theorem e206_15 : exq sa F N S rt cd206 P Q 15 L st h = (ldJ L 6 fun v => P 17 L (.long v :: st) h) := rfl
theorem e206_17 : exq sa F N S rt cd206 P Q 17 L st h = (tJ st fun b s => tJ s fun a s => ¬ b = 0 ∧ P 18 L (.long (a - a / b * b) :: s) h) := rfl
theorem e206_18 : exq sa F N S rt cd206 P Q 18 L st h = (tJ st fun v s => lvS2 L 8 (.long v) fun L' => P 20 L' s h) := rfl
theorem e206_20 : exq sa F N S rt cd206 P Q 20 L st h = (ldJ L 6 fun v => P 22 L (.long v :: st) h) := rfl
theorem e206_22 : exq sa F N S rt cd206 P Q 22 L st h = (tJ st fun v s => lvS2 L 4 (.long v) fun L' => P 24 L' s h) := rfl
theorem e206_24 : exq sa F N S rt cd206 P Q 24 L st h = (ldJ L 8 fun v => P 26 L (.long v :: st) h) := rfl
theorem e206_26 : exq sa F N S rt cd206 P Q 26 L st h = (tJ st fun v s => lvS2 L 6 (.long v) fun L' => P 28 L' s h) := rfl
theorem e206_28 : exq sa F N S rt cd206 P Q 28 L st h = (P 6 L st h) := rfl
theorem e206_31 : exq sa F N S rt cd206 P Q 31 L st h = (ldJ L 4 fun v => P 33 L (.long v :: st) h) := rfl
theorem e206_33 : exq sa F N S rt cd206 P Q 33 L st h = (tJ st fun v s => s = [] ∧ rt = some .long ∧ Q (some (.long v)) h) := rfl
theorem e207_0 : exq sa F N S rt cd207 P Q 0 L st h = (ldR L 0 fun v => P 1 L (v :: st) h) := rfl
theorem e207_1 : exq sa F N S rt cd207 P Q 1 L st h = (ldI L 1 fun v => P 2 L (.int v :: st) h) := rfl
theorem e207_2 : exq sa F N S rt cd207 P Q 2 L st h = (ivV F 163 2 7 st h fun r s h' => P 5 L (pu r s) h') := rfl
theorem e207_5 : exq sa F N S rt cd207 P Q 5 L st h = (tI st fun a s => br (a = 0) (P 35 L s h) (P 8 L s h)) := rfl
theorem e207_8 : exq sa F N S rt cd207 P Q 8 L st h = (ldI L 2 fun v => P 9 L (.int v :: st) h) := rfl
theorem e207_9 : exq sa F N S rt cd207 P Q 9 L st h = (ivS F 191 1 st h fun r s h' => P 12 L (pu r s) h') := rfl
theorem e207_12 : exq sa F N S rt cd207 P Q 12 L st h = (tI st fun a s => br (a = 0) (P 35 L s h) (P 15 L s h)) := rfl
theorem e207_15 : exq sa F N S rt cd207 P Q 15 L st h = (ldI L 3 fun v => P 16 L (.int v :: st) h) := rfl
theorem e207_16 : exq sa F N S rt cd207 P Q 16 L st h = (P 17 L (.int (Int32.ofInt (0)) :: st) h) := rfl
theorem e207_17 : exq sa F N S rt cd207 P Q 17 L st h = (P 19 L (.int (Int32.ofInt (10)) :: st) h) := rfl
theorem e207_19 : exq sa F N S rt cd207 P Q 19 L st h = (ivS F 135 3 st h fun r s h' => P 22 L (pu r s) h') := rfl
theorem e207_22 : exq sa F N S rt cd207 P Q 22 L st h = (tI st fun a s => br (a = 0) (P 35 L s h) (P 25 L s h)) := rfl
theorem e207_25 : exq sa F N S rt cd207 P Q 25 L st h = (ldI L 4 fun v => P 27 L (.int v :: st) h) := rfl
theorem e207_27 : exq sa F N S rt cd207 P Q 27 L st h = (P 28 L (.int (Int32.ofInt (0)) :: st) h) := rfl
theorem e207_28 : exq sa F N S rt cd207 P Q 28 L st h = (P 29 L (.int (Int32.ofInt (1)) :: st) h) := rfl
theorem e207_29 : exq sa F N S rt cd207 P Q 29 L st h = (ivS F 135 3 st h fun r s h' => P 32 L (pu r s) h') := rfl
theorem e207_32 : exq sa F N S rt cd207 P Q 32 L st h = (tI st fun a s => br (a = 0) (P 35 L s h) (P 39 L s h)) := rfl
theorem e207_35 : exq sa F N S rt cd207 P Q 35 L st h = (P 38 L (.long (Int64.ofInt (-1000001)) :: st) h) := rfl
theorem e207_38 : exq sa F N S rt cd207 P Q 38 L st h = (tJ st fun v s => s = [] ∧ rt = some .long ∧ Q (some (.long v)) h) := rfl
theorem e207_39 : exq sa F N S rt cd207 P Q 39 L st h = (ldR L 0 fun v => P 40 L (v :: st) h) := rfl
theorem e207_40 : exq sa F N S rt cd207 P Q 40 L st h = (ldR L 0 fun v => P 41 L (v :: st) h) := rfl
theorem e207_41 : exq sa F N S rt cd207 P Q 41 L st h = (tR st fun a s => opt (hO h a 7) fun fs => opt (fs[17]?) fun v => P 44 L (v :: s) h) := rfl
theorem e207_44 : exq sa F N S rt cd207 P Q 44 L st h = (P 45 L (.int (Int32.ofInt (1)) :: st) h) := rfl
theorem e207_45 : exq sa F N S rt cd207 P Q 45 L st h = (ivV F 175 3 7 st h fun r s h' => P 48 L (pu r s) h') := rfl
theorem e207_48 : exq sa F N S rt cd207 P Q 48 L st h = (tI st fun v s => lvS L 5 (.int v) fun L' => P 50 L' s h) := rfl
theorem e207_50 : exq sa F N S rt cd207 P Q 50 L st h = (P 51 L (.long (Int64.ofInt 0) :: st) h) := rfl
theorem e207_51 : exq sa F N S rt cd207 P Q 51 L st h = (tJ st fun v s => lvS2 L 6 (.long v) fun L' => P 53 L' s h) := rfl
theorem e207_53 : exq sa F N S rt cd207 P Q 53 L st h = (P 54 L (.long (Int64.ofInt 1) :: st) h) := rfl
theorem e207_54 : exq sa F N S rt cd207 P Q 54 L st h = (tJ st fun v s => lvS2 L 8 (.long v) fun L' => P 56 L' s h) := rfl
theorem e207_56 : exq sa F N S rt cd207 P Q 56 L st h = (P 57 L (.int (Int32.ofInt (0)) :: st) h) := rfl
theorem e207_57 : exq sa F N S rt cd207 P Q 57 L st h = (tI st fun v s => lvS L 10 (.int v) fun L' => P 59 L' s h) := rfl
theorem e207_59 : exq sa F N S rt cd207 P Q 59 L st h = (ldI L 10 fun v => P 61 L (.int v :: st) h) := rfl
theorem e207_61 : exq sa F N S rt cd207 P Q 61 L st h = (ldI L 5 fun v => P 63 L (.int v :: st) h) := rfl
theorem e207_63 : exq sa F N S rt cd207 P Q 63 L st h = (ivS F 137 1 st h fun r s h' => P 66 L (pu r s) h') := rfl
theorem e207_66 : exq sa F N S rt cd207 P Q 66 L st h = (tI st fun b s => tI s fun a s => br (b ≤ a) (P 83 L s h) (P 69 L s h)) := rfl
theorem e207_69 : exq sa F N S rt cd207 P Q 69 L st h = (ldJ L 8 fun v => P 71 L (.long v :: st) h) := rfl
theorem e207_71 : exq sa F N S rt cd207 P Q 71 L st h = (P 74 L (.long (Int64.ofInt (10)) :: st) h) := rfl
theorem e207_74 : exq sa F N S rt cd207 P Q 74 L st h = (tJ st fun b s => tJ s fun a s => P 75 L (.long (a * b) :: s) h) := rfl
theorem e207_75 : exq sa F N S rt cd207 P Q 75 L st h = (tJ st fun v s => lvS2 L 8 (.long v) fun L' => P 77 L' s h) := rfl
theorem e207_77 : exq sa F N S rt cd207 P Q 77 L st h = (ldI L 10 fun v => lvS L 10 (.int (v + Int32.ofInt (1))) fun L' => P 80 L' st h) := rfl
theorem e207_80 : exq sa F N S rt cd207 P Q 80 L st h = (P 59 L st h) := rfl
theorem e207_83 : exq sa F N S rt cd207 P Q 83 L st h = (P 84 L (.int (Int32.ofInt (0)) :: st) h) := rfl
theorem e207_84 : exq sa F N S rt cd207 P Q 84 L st h = (tI st fun v s => lvS L 10 (.int v) fun L' => P 86 L' s h) := rfl
theorem e207_86 : exq sa F N S rt cd207 P Q 86 L st h = (ldI L 10 fun v => P 88 L (.int v :: st) h) := rfl
theorem e207_88 : exq sa F N S rt cd207 P Q 88 L st h = (ldI L 5 fun v => P 90 L (.int v :: st) h) := rfl
theorem e207_90 : exq sa F N S rt cd207 P Q 90 L st h = (tI st fun b s => tI s fun a s => br (b < a) (P 224 L s h) (P 93 L s h)) := rfl
theorem e207_93 : exq sa F N S rt cd207 P Q 93 L st h = (ldI L 10 fun v => P 95 L (.int v :: st) h) := rfl
theorem e207_95 : exq sa F N S rt cd207 P Q 95 L st h = (ldI L 5 fun v => P 97 L (.int v :: st) h) := rfl
theorem e207_97 : exq sa F N S rt cd207 P Q 97 L st h = (P 98 L (.int (Int32.ofInt (-1)) :: st) h) := rfl
theorem e207_98 : exq sa F N S rt cd207 P Q 98 L st h = (tI st fun b s => tI s fun a s => P 99 L (.int (a ^^^ b) :: s) h) := rfl
theorem e207_99 : exq sa F N S rt cd207 P Q 99 L st h = (tI st fun b s => tI s fun a s => P 100 L (.int (a &&& b) :: s) h) := rfl
theorem e207_100 : exq sa F N S rt cd207 P Q 100 L st h = (tI st fun a s => br (a = 0) (P 103 L s h) (P 218 L s h)) := rfl
theorem e207_103 : exq sa F N S rt cd207 P Q 103 L st h = (P 104 L (.long (Int64.ofInt 1) :: st) h) := rfl
theorem e207_104 : exq sa F N S rt cd207 P Q 104 L st h = (tJ st fun v s => lvS2 L 11 (.long v) fun L' => P 106 L' s h) := rfl
theorem e207_106 : exq sa F N S rt cd207 P Q 106 L st h = (ldR L 0 fun v => P 107 L (v :: st) h) := rfl
theorem e207_107 : exq sa F N S rt cd207 P Q 107 L st h = (ivV F 189 1 7 st h fun r s h' => P 110 L (pu r s) h') := rfl
theorem e207_110 : exq sa F N S rt cd207 P Q 110 L st h = (P 111 L (.int (Int32.ofInt (0)) :: st) h) := rfl
theorem e207_111 : exq sa F N S rt cd207 P Q 111 L st h = (tI st fun v s => lvS L 13 (.int v) fun L' => P 113 L' s h) := rfl
theorem e207_113 : exq sa F N S rt cd207 P Q 113 L st h = (ldI L 13 fun v => P 115 L (.int v :: st) h) := rfl
theorem e207_115 : exq sa F N S rt cd207 P Q 115 L st h = (ldR L 0 fun v => P 116 L (v :: st) h) := rfl
theorem e207_116 : exq sa F N S rt cd207 P Q 116 L st h = (tR st fun a s => opt (hO h a 7) fun fs => opt (fs[16]?) fun v => P 119 L (v :: s) h) := rfl
theorem e207_119 : exq sa F N S rt cd207 P Q 119 L st h = (P 120 L (.int (Int32.ofInt (0)) :: st) h) := rfl
theorem e207_120 : exq sa F N S rt cd207 P Q 120 L st h = (ald sa st h fun v s => P 121 L (.int v :: s) h) := rfl
theorem e207_121 : exq sa F N S rt cd207 P Q 121 L st h = (tI st fun b s => tI s fun a s => br (b ≤ a) (P 189 L s h) (P 124 L s h)) := rfl
theorem e207_124 : exq sa F N S rt cd207 P Q 124 L st h = (ldJ L 11 fun v => P 126 L (.long v :: st) h) := rfl
theorem e207_126 : exq sa F N S rt cd207 P Q 126 L st h = (ldI L 5 fun v => P 128 L (.int v :: st) h) := rfl
theorem e207_128 : exq sa F N S rt cd207 P Q 128 L st h = (ldI L 13 fun v => P 130 L (.int v :: st) h) := rfl
theorem e207_130 : exq sa F N S rt cd207 P Q 130 L st h = (ivS F 136 2 st h fun r s h' => P 133 L (pu r s) h') := rfl
theorem e207_133 : exq sa F N S rt cd207 P Q 133 L st h = (tI st fun a s => br (a = 0) (P 136 L s h) (P 140 L s h)) := rfl
theorem e207_136 : exq sa F N S rt cd207 P Q 136 L st h = (P 137 L (.long (Int64.ofInt 1) :: st) h) := rfl
theorem e207_137 : exq sa F N S rt cd207 P Q 137 L st h = (P 160 L st h) := rfl
theorem e207_140 : exq sa F N S rt cd207 P Q 140 L st h = (ldI L 10 fun v => P 142 L (.int v :: st) h) := rfl
theorem e207_142 : exq sa F N S rt cd207 P Q 142 L st h = (ldI L 13 fun v => P 144 L (.int v :: st) h) := rfl
theorem e207_144 : exq sa F N S rt cd207 P Q 144 L st h = (ivS F 136 2 st h fun r s h' => P 147 L (pu r s) h') := rfl
theorem e207_147 : exq sa F N S rt cd207 P Q 147 L st h = (tI st fun a s => br (a = 0) (P 155 L s h) (P 150 L s h)) := rfl
theorem e207_150 : exq sa F N S rt cd207 P Q 150 L st h = (ldI L 3 fun v => P 151 L (.int v :: st) h) := rfl
theorem e207_151 : exq sa F N S rt cd207 P Q 151 L st h = (tI st fun a s => P 152 L (.long a.toInt64 :: s) h) := rfl
theorem e207_152 : exq sa F N S rt cd207 P Q 152 L st h = (P 160 L st h) := rfl
theorem e207_155 : exq sa F N S rt cd207 P Q 155 L st h = (P 157 L (.int (Int32.ofInt (10)) :: st) h) := rfl
theorem e207_157 : exq sa F N S rt cd207 P Q 157 L st h = (ldI L 3 fun v => P 158 L (.int v :: st) h) := rfl
theorem e207_158 : exq sa F N S rt cd207 P Q 158 L st h = (tI st fun b s => tI s fun a s => P 159 L (.int (a - b) :: s) h) := rfl
theorem e207_159 : exq sa F N S rt cd207 P Q 159 L st h = (tI st fun a s => P 160 L (.long a.toInt64 :: s) h) := rfl
theorem e207_160 : exq sa F N S rt cd207 P Q 160 L st h = (tJ st fun b s => tJ s fun a s => P 161 L (.long (a * b) :: s) h) := rfl
theorem e207_161 : exq sa F N S rt cd207 P Q 161 L st h = (tJ st fun v s => lvS2 L 11 (.long v) fun L' => P 163 L' s h) := rfl
theorem e207_163 : exq sa F N S rt cd207 P Q 163 L st h = (ldI L 10 fun v => P 165 L (.int v :: st) h) := rfl
theorem e207_165 : exq sa F N S rt cd207 P Q 165 L st h = (ldI L 13 fun v => P 167 L (.int v :: st) h) := rfl
theorem e207_167 : exq sa F N S rt cd207 P Q 167 L st h = (ivS F 136 2 st h fun r s h' => P 170 L (pu r s) h') := rfl
theorem e207_170 : exq sa F N S rt cd207 P Q 170 L st h = (tI st fun a s => br (a = 0) (P 183 L s h) (P 173 L s h)) := rfl
theorem e207_173 : exq sa F N S rt cd207 P Q 173 L st h = (ldR L 0 fun v => P 174 L (v :: st) h) := rfl
theorem e207_174 : exq sa F N S rt cd207 P Q 174 L st h = (ldR L 0 fun v => P 175 L (v :: st) h) := rfl
theorem e207_175 : exq sa F N S rt cd207 P Q 175 L st h = (tR st fun a s => opt (hO h a 7) fun fs => opt (fs[18]?) fun v => P 178 L (v :: s) h) := rfl
theorem e207_178 : exq sa F N S rt cd207 P Q 178 L st h = (ldI L 13 fun v => P 180 L (.int v :: st) h) := rfl
theorem e207_180 : exq sa F N S rt cd207 P Q 180 L st h = (ivV F 177 3 7 st h fun r s h' => P 183 L (pu r s) h') := rfl
theorem e207_183 : exq sa F N S rt cd207 P Q 183 L st h = (ldI L 13 fun v => lvS L 13 (.int (v + Int32.ofInt (1))) fun L' => P 186 L' st h) := rfl
theorem e207_186 : exq sa F N S rt cd207 P Q 186 L st h = (P 113 L st h) := rfl
theorem e207_189 : exq sa F N S rt cd207 P Q 189 L st h = (ldR L 0 fun v => P 190 L (v :: st) h) := rfl
theorem e207_190 : exq sa F N S rt cd207 P Q 190 L st h = (ldI L 2 fun v => P 191 L (.int v :: st) h) := rfl
theorem e207_191 : exq sa F N S rt cd207 P Q 191 L st h = (ivV F 190 2 7 st h fun r s h' => P 194 L (pu r s) h') := rfl
theorem e207_194 : exq sa F N S rt cd207 P Q 194 L st h = (ldJ L 6 fun v => P 196 L (.long v :: st) h) := rfl
theorem e207_196 : exq sa F N S rt cd207 P Q 196 L st h = (ldR L 0 fun v => P 197 L (v :: st) h) := rfl
theorem e207_197 : exq sa F N S rt cd207 P Q 197 L st h = (tR st fun a s => opt (hO h a 7) fun fs => opt (fs[18]?) fun v => P 200 L (v :: s) h) := rfl
theorem e207_200 : exq sa F N S rt cd207 P Q 200 L st h = (P 201 L (.int (Int32.ofInt (1)) :: st) h) := rfl
theorem e207_201 : exq sa F N S rt cd207 P Q 201 L st h = (ald sa st h fun v s => P 202 L (.int v :: s) h) := rfl
theorem e207_202 : exq sa F N S rt cd207 P Q 202 L st h = (ldI L 1 fun v => P 203 L (.int v :: st) h) := rfl
theorem e207_203 : exq sa F N S rt cd207 P Q 203 L st h = (ivS F 136 2 st h fun r s h' => P 206 L (pu r s) h') := rfl
theorem e207_206 : exq sa F N S rt cd207 P Q 206 L st h = (tI st fun a s => br (a = 0) (P 214 L s h) (P 209 L s h)) := rfl
theorem e207_209 : exq sa F N S rt cd207 P Q 209 L st h = (ldJ L 11 fun v => P 211 L (.long v :: st) h) := rfl
theorem e207_211 : exq sa F N S rt cd207 P Q 211 L st h = (P 215 L st h) := rfl
theorem e207_214 : exq sa F N S rt cd207 P Q 214 L st h = (P 215 L (.long (Int64.ofInt 0) :: st) h) := rfl
theorem e207_215 : exq sa F N S rt cd207 P Q 215 L st h = (tJ st fun b s => tJ s fun a s => P 216 L (.long (a + b) :: s) h) := rfl
theorem e207_216 : exq sa F N S rt cd207 P Q 216 L st h = (tJ st fun v s => lvS2 L 6 (.long v) fun L' => P 218 L' s h) := rfl
theorem e207_218 : exq sa F N S rt cd207 P Q 218 L st h = (ldI L 10 fun v => lvS L 10 (.int (v + Int32.ofInt (1))) fun L' => P 221 L' st h) := rfl
theorem e207_221 : exq sa F N S rt cd207 P Q 221 L st h = (P 86 L st h) := rfl
theorem e207_224 : exq sa F N S rt cd207 P Q 224 L st h = (ldJ L 6 fun v => P 226 L (.long v :: st) h) := rfl
theorem e207_226 : exq sa F N S rt cd207 P Q 226 L st h = (ldJ L 8 fun v => P 228 L (.long v :: st) h) := rfl
theorem e207_228 : exq sa F N S rt cd207 P Q 228 L st h = (ivS F 206 2 st h fun r s h' => P 231 L (pu r s) h') := rfl
theorem e207_231 : exq sa F N S rt cd207 P Q 231 L st h = (tJ st fun v s => lvS2 L 10 (.long v) fun L' => P 233 L' s h) := rfl
theorem e207_233 : exq sa F N S rt cd207 P Q 233 L st h = (ldI L 4 fun v => P 235 L (.int v :: st) h) := rfl
theorem e207_235 : exq sa F N S rt cd207 P Q 235 L st h = (tI st fun a s => br (a = 0) (P 238 L s h) (P 246 L s h)) := rfl
theorem e207_238 : exq sa F N S rt cd207 P Q 238 L st h = (ldJ L 6 fun v => P 240 L (.long v :: st) h) := rfl
theorem e207_240 : exq sa F N S rt cd207 P Q 240 L st h = (ldJ L 10 fun v => P 242 L (.long v :: st) h) := rfl
theorem e207_242 : exq sa F N S rt cd207 P Q 242 L st h = (tJ st fun b s => tJ s fun a s => ¬ b = 0 ∧ P 243 L (.long (a / b) :: s) h) := rfl
theorem e207_243 : exq sa F N S rt cd207 P Q 243 L st h = (P 251 L st h) := rfl
theorem e207_246 : exq sa F N S rt cd207 P Q 246 L st h = (ldJ L 8 fun v => P 248 L (.long v :: st) h) := rfl
theorem e207_248 : exq sa F N S rt cd207 P Q 248 L st h = (ldJ L 10 fun v => P 250 L (.long v :: st) h) := rfl
theorem e207_250 : exq sa F N S rt cd207 P Q 250 L st h = (tJ st fun b s => tJ s fun a s => ¬ b = 0 ∧ P 251 L (.long (a / b) :: s) h) := rfl
theorem e207_251 : exq sa F N S rt cd207 P Q 251 L st h = (tJ st fun v s => s = [] ∧ rt = some .long ∧ Q (some (.long v)) h) := rfl
theorem e208_0 : exq sa F N S rt cd208 P Q 0 L st h = (ldR L 0 fun v => P 1 L (v :: st) h) := rfl
theorem e208_1 : exq sa F N S rt cd208 P Q 1 L st h = (ldI L 1 fun v => P 2 L (.int v :: st) h) := rfl
theorem e208_2 : exq sa F N S rt cd208 P Q 2 L st h = (ivS F 191 1 st h fun r s h' => P 5 L (pu r s) h') := rfl
theorem e208_5 : exq sa F N S rt cd208 P Q 5 L st h = (tI st fun a s => br (a = 0) (P 31 L s h) (P 8 L s h)) := rfl
theorem e208_8 : exq sa F N S rt cd208 P Q 8 L st h = (ldI L 2 fun v => P 9 L (.int v :: st) h) := rfl
theorem e208_9 : exq sa F N S rt cd208 P Q 9 L st h = (P 10 L (.int (Int32.ofInt (1)) :: st) h) := rfl
theorem e208_10 : exq sa F N S rt cd208 P Q 10 L st h = (P 12 L (.int (Int32.ofInt (999999)) :: st) h) := rfl
theorem e208_12 : exq sa F N S rt cd208 P Q 12 L st h = (ivS F 135 3 st h fun r s h' => P 15 L (pu r s) h') := rfl
theorem e208_15 : exq sa F N S rt cd208 P Q 15 L st h = (tI st fun a s => br (a = 0) (P 31 L s h) (P 18 L s h)) := rfl
theorem e208_18 : exq sa F N S rt cd208 P Q 18 L st h = (ldI L 3 fun v => P 19 L (.int v :: st) h) := rfl
theorem e208_19 : exq sa F N S rt cd208 P Q 19 L st h = (P 20 L (.int (Int32.ofInt (0)) :: st) h) := rfl
theorem e208_20 : exq sa F N S rt cd208 P Q 20 L st h = (P 21 L (.int (Int32.ofInt (1)) :: st) h) := rfl
theorem e208_21 : exq sa F N S rt cd208 P Q 21 L st h = (ivS F 135 3 st h fun r s h' => P 24 L (pu r s) h') := rfl
theorem e208_24 : exq sa F N S rt cd208 P Q 24 L st h = (tI st fun a s => br (a = 0) (P 31 L s h) (P 27 L s h)) := rfl
theorem e208_27 : exq sa F N S rt cd208 P Q 27 L st h = (P 28 L (.int (Int32.ofInt (1)) :: st) h) := rfl
theorem e208_28 : exq sa F N S rt cd208 P Q 28 L st h = (P 32 L st h) := rfl
theorem e208_31 : exq sa F N S rt cd208 P Q 31 L st h = (P 32 L (.int (Int32.ofInt (0)) :: st) h) := rfl
theorem e208_32 : exq sa F N S rt cd208 P Q 32 L st h = (ivV F 180 2 7 st h fun r s h' => P 35 L (pu r s) h') := rfl
theorem e208_35 : exq sa F N S rt cd208 P Q 35 L st h = (tI st fun v s => lvS L 4 (.int v) fun L' => P 37 L' s h) := rfl
theorem e208_37 : exq sa F N S rt cd208 P Q 37 L st h = (ldI L 4 fun v => P 39 L (.int v :: st) h) := rfl
theorem e208_39 : exq sa F N S rt cd208 P Q 39 L st h = (tI st fun a s => br (0 ≤ a) (P 45 L s h) (P 42 L s h)) := rfl
theorem e208_42 : exq sa F N S rt cd208 P Q 42 L st h = (ldI L 4 fun v => P 44 L (.int v :: st) h) := rfl
theorem e208_44 : exq sa F N S rt cd208 P Q 44 L st h = (tI st fun v s => s = [] ∧ (rt = some .int ∨ (rt = some .boolean ∧ (v = 0 ∨ v = 1))) ∧ Q (some (.int v)) h) := rfl
theorem e208_45 : exq sa F N S rt cd208 P Q 45 L st h = (ldR L 0 fun v => P 46 L (v :: st) h) := rfl
theorem e208_46 : exq sa F N S rt cd208 P Q 46 L st h = (ivV F 189 1 7 st h fun r s h' => P 49 L (pu r s) h') := rfl
theorem e208_49 : exq sa F N S rt cd208 P Q 49 L st h = (ldI L 2 fun v => P 50 L (.int v :: st) h) := rfl
theorem e208_50 : exq sa F N S rt cd208 P Q 50 L st h = (tI st fun a s => P 51 L (.long a.toInt64 :: s) h) := rfl
theorem e208_51 : exq sa F N S rt cd208 P Q 51 L st h = (tJ st fun v s => lvS2 L 5 (.long v) fun L' => P 53 L' s h) := rfl
theorem e208_53 : exq sa F N S rt cd208 P Q 53 L st h = (P 54 L (.int (Int32.ofInt (0)) :: st) h) := rfl
theorem e208_54 : exq sa F N S rt cd208 P Q 54 L st h = (tI st fun v s => lvS L 7 (.int v) fun L' => P 56 L' s h) := rfl
theorem e208_56 : exq sa F N S rt cd208 P Q 56 L st h = (ldI L 7 fun v => P 58 L (.int v :: st) h) := rfl
theorem e208_58 : exq sa F N S rt cd208 P Q 58 L st h = (ldI L 1 fun v => P 59 L (.int v :: st) h) := rfl
theorem e208_59 : exq sa F N S rt cd208 P Q 59 L st h = (tI st fun b s => tI s fun a s => br (b ≤ a) (P 166 L s h) (P 62 L s h)) := rfl
theorem e208_62 : exq sa F N S rt cd208 P Q 62 L st h = (ldJ L 5 fun v => P 64 L (.long v :: st) h) := rfl
theorem e208_64 : exq sa F N S rt cd208 P Q 64 L st h = (P 67 L (.long (Int64.ofInt (16807)) :: st) h) := rfl
theorem e208_67 : exq sa F N S rt cd208 P Q 67 L st h = (tJ st fun b s => tJ s fun a s => P 68 L (.long (a * b) :: s) h) := rfl
theorem e208_68 : exq sa F N S rt cd208 P Q 68 L st h = (P 71 L (.long (Int64.ofInt (2147483647)) :: st) h) := rfl
theorem e208_71 : exq sa F N S rt cd208 P Q 71 L st h = (tJ st fun b s => tJ s fun a s => ¬ b = 0 ∧ P 72 L (.long (a - a / b * b) :: s) h) := rfl
theorem e208_72 : exq sa F N S rt cd208 P Q 72 L st h = (tJ st fun v s => lvS2 L 5 (.long v) fun L' => P 74 L' s h) := rfl
theorem e208_74 : exq sa F N S rt cd208 P Q 74 L st h = (ldJ L 5 fun v => P 76 L (.long v :: st) h) := rfl
theorem e208_76 : exq sa F N S rt cd208 P Q 76 L st h = (ldR L 0 fun v => P 77 L (v :: st) h) := rfl
theorem e208_77 : exq sa F N S rt cd208 P Q 77 L st h = (tR st fun a s => opt (hO h a 7) fun fs => opt (fs[16]?) fun v => P 80 L (v :: s) h) := rfl
theorem e208_80 : exq sa F N S rt cd208 P Q 80 L st h = (P 81 L (.int (Int32.ofInt (0)) :: st) h) := rfl
theorem e208_81 : exq sa F N S rt cd208 P Q 81 L st h = (ald sa st h fun v s => P 82 L (.int v :: s) h) := rfl
theorem e208_82 : exq sa F N S rt cd208 P Q 82 L st h = (tI st fun a s => P 83 L (.long a.toInt64 :: s) h) := rfl
theorem e208_83 : exq sa F N S rt cd208 P Q 83 L st h = (tJ st fun b s => tJ s fun a s => ¬ b = 0 ∧ P 84 L (.long (a - a / b * b) :: s) h) := rfl
theorem e208_84 : exq sa F N S rt cd208 P Q 84 L st h = (tJ st fun a s => P 85 L (.int a.toInt32 :: s) h) := rfl
theorem e208_85 : exq sa F N S rt cd208 P Q 85 L st h = (tI st fun v s => lvS L 8 (.int v) fun L' => P 87 L' s h) := rfl
theorem e208_87 : exq sa F N S rt cd208 P Q 87 L st h = (ldR L 0 fun v => P 88 L (v :: st) h) := rfl
theorem e208_88 : exq sa F N S rt cd208 P Q 88 L st h = (tR st fun a s => opt (hO h a 7) fun fs => opt (fs[18]?) fun v => P 91 L (v :: s) h) := rfl
theorem e208_91 : exq sa F N S rt cd208 P Q 91 L st h = (P 93 L (.int (Int32.ofInt (24)) :: st) h) := rfl
theorem e208_93 : exq sa F N S rt cd208 P Q 93 L st h = (ldI L 8 fun v => P 95 L (.int v :: st) h) := rfl
theorem e208_95 : exq sa F N S rt cd208 P Q 95 L st h = (tI st fun b s => tI s fun a s => P 96 L (.int (a + b) :: s) h) := rfl
theorem e208_96 : exq sa F N S rt cd208 P Q 96 L st h = (ald sa st h fun v s => P 97 L (.int v :: s) h) := rfl
theorem e208_97 : exq sa F N S rt cd208 P Q 97 L st h = (tI st fun v s => lvS L 9 (.int v) fun L' => P 99 L' s h) := rfl
theorem e208_99 : exq sa F N S rt cd208 P Q 99 L st h = (ldI L 9 fun v => P 101 L (.int v :: st) h) := rfl
theorem e208_101 : exq sa F N S rt cd208 P Q 101 L st h = (tI st fun a s => br (a = 0) (P 104 L s h) (P 125 L s h)) := rfl
theorem e208_104 : exq sa F N S rt cd208 P Q 104 L st h = (ldJ L 5 fun v => P 106 L (.long v :: st) h) := rfl
theorem e208_106 : exq sa F N S rt cd208 P Q 106 L st h = (P 109 L (.long (Int64.ofInt (2)) :: st) h) := rfl
theorem e208_109 : exq sa F N S rt cd208 P Q 109 L st h = (tJ st fun b s => tJ s fun a s => ¬ b = 0 ∧ P 110 L (.long (a - a / b * b) :: s) h) := rfl
theorem e208_110 : exq sa F N S rt cd208 P Q 110 L st h = (P 111 L (.long (Int64.ofInt 0) :: st) h) := rfl
theorem e208_111 : exq sa F N S rt cd208 P Q 111 L st h = (tJ st fun b s => tJ s fun a s => P 112 L (.int (lg_cmp a b) :: s) h) := rfl
theorem e208_112 : exq sa F N S rt cd208 P Q 112 L st h = (tI st fun a s => br (a = 0) (P 115 L s h) (P 125 L s h)) := rfl
theorem e208_115 : exq sa F N S rt cd208 P Q 115 L st h = (ldR L 0 fun v => P 116 L (v :: st) h) := rfl
theorem e208_116 : exq sa F N S rt cd208 P Q 116 L st h = (ldR L 0 fun v => P 117 L (v :: st) h) := rfl
theorem e208_117 : exq sa F N S rt cd208 P Q 117 L st h = (tR st fun a s => opt (hO h a 7) fun fs => opt (fs[18]?) fun v => P 120 L (v :: s) h) := rfl
theorem e208_120 : exq sa F N S rt cd208 P Q 120 L st h = (ldI L 8 fun v => P 122 L (.int v :: st) h) := rfl
theorem e208_122 : exq sa F N S rt cd208 P Q 122 L st h = (ivV F 176 3 7 st h fun r s h' => P 125 L (pu r s) h') := rfl
theorem e208_125 : exq sa F N S rt cd208 P Q 125 L st h = (ldI L 9 fun v => P 127 L (.int v :: st) h) := rfl
theorem e208_127 : exq sa F N S rt cd208 P Q 127 L st h = (P 128 L (.int (Int32.ofInt (1)) :: st) h) := rfl
theorem e208_128 : exq sa F N S rt cd208 P Q 128 L st h = (tI st fun b s => tI s fun a s => br (a = b) (P 131 L s h) (P 152 L s h)) := rfl
theorem e208_131 : exq sa F N S rt cd208 P Q 131 L st h = (ldJ L 5 fun v => P 133 L (.long v :: st) h) := rfl
theorem e208_133 : exq sa F N S rt cd208 P Q 133 L st h = (P 136 L (.long (Int64.ofInt (5)) :: st) h) := rfl
theorem e208_136 : exq sa F N S rt cd208 P Q 136 L st h = (tJ st fun b s => tJ s fun a s => ¬ b = 0 ∧ P 137 L (.long (a - a / b * b) :: s) h) := rfl
theorem e208_137 : exq sa F N S rt cd208 P Q 137 L st h = (P 138 L (.long (Int64.ofInt 0) :: st) h) := rfl
theorem e208_138 : exq sa F N S rt cd208 P Q 138 L st h = (tJ st fun b s => tJ s fun a s => P 139 L (.int (lg_cmp a b) :: s) h) := rfl
theorem e208_139 : exq sa F N S rt cd208 P Q 139 L st h = (tI st fun a s => br (a = 0) (P 142 L s h) (P 152 L s h)) := rfl
theorem e208_142 : exq sa F N S rt cd208 P Q 142 L st h = (ldR L 0 fun v => P 143 L (v :: st) h) := rfl
theorem e208_143 : exq sa F N S rt cd208 P Q 143 L st h = (ldR L 0 fun v => P 144 L (v :: st) h) := rfl
theorem e208_144 : exq sa F N S rt cd208 P Q 144 L st h = (tR st fun a s => opt (hO h a 7) fun fs => opt (fs[18]?) fun v => P 147 L (v :: s) h) := rfl
theorem e208_147 : exq sa F N S rt cd208 P Q 147 L st h = (ldI L 8 fun v => P 149 L (.int v :: st) h) := rfl
theorem e208_149 : exq sa F N S rt cd208 P Q 149 L st h = (ivV F 177 3 7 st h fun r s h' => P 152 L (pu r s) h') := rfl
theorem e208_152 : exq sa F N S rt cd208 P Q 152 L st h = (ldR L 0 fun v => P 153 L (v :: st) h) := rfl
theorem e208_153 : exq sa F N S rt cd208 P Q 153 L st h = (ldR L 0 fun v => P 154 L (v :: st) h) := rfl
theorem e208_154 : exq sa F N S rt cd208 P Q 154 L st h = (tR st fun a s => opt (hO h a 7) fun fs => opt (fs[18]?) fun v => P 157 L (v :: s) h) := rfl
theorem e208_157 : exq sa F N S rt cd208 P Q 157 L st h = (ivV F 173 2 7 st h fun r s h' => P 160 L (pu r s) h') := rfl
theorem e208_160 : exq sa F N S rt cd208 P Q 160 L st h = (ldI L 7 fun v => lvS L 7 (.int (v + Int32.ofInt (1))) fun L' => P 163 L' st h) := rfl
theorem e208_163 : exq sa F N S rt cd208 P Q 163 L st h = (P 56 L st h) := rfl
theorem e208_166 : exq sa F N S rt cd208 P Q 166 L st h = (ldI L 3 fun v => P 167 L (.int v :: st) h) := rfl
theorem e208_167 : exq sa F N S rt cd208 P Q 167 L st h = (tI st fun a s => br (a = 0) (P 170 L s h) (P 183 L s h)) := rfl
theorem e208_170 : exq sa F N S rt cd208 P Q 170 L st h = (ldR L 0 fun v => P 171 L (v :: st) h) := rfl
theorem e208_171 : exq sa F N S rt cd208 P Q 171 L st h = (ldR L 0 fun v => P 172 L (v :: st) h) := rfl
theorem e208_172 : exq sa F N S rt cd208 P Q 172 L st h = (tR st fun a s => opt (hO h a 7) fun fs => opt (fs[18]?) fun v => P 175 L (v :: s) h) := rfl
theorem e208_175 : exq sa F N S rt cd208 P Q 175 L st h = (P 176 L (.int (Int32.ofInt (1)) :: st) h) := rfl
theorem e208_176 : exq sa F N S rt cd208 P Q 176 L st h = (ald sa st h fun v s => P 177 L (.int v :: s) h) := rfl
theorem e208_177 : exq sa F N S rt cd208 P Q 177 L st h = (ivV F 174 2 7 st h fun r s h' => P 180 L (pu r s) h') := rfl
theorem e208_180 : exq sa F N S rt cd208 P Q 180 L st h = (P 192 L st h) := rfl
theorem e208_183 : exq sa F N S rt cd208 P Q 183 L st h = (ldR L 0 fun v => P 184 L (v :: st) h) := rfl
theorem e208_184 : exq sa F N S rt cd208 P Q 184 L st h = (ldR L 0 fun v => P 185 L (v :: st) h) := rfl
theorem e208_185 : exq sa F N S rt cd208 P Q 185 L st h = (tR st fun a s => opt (hO h a 7) fun fs => opt (fs[18]?) fun v => P 188 L (v :: s) h) := rfl
theorem e208_188 : exq sa F N S rt cd208 P Q 188 L st h = (P 189 L (.int (Int32.ofInt (2)) :: st) h) := rfl
theorem e208_189 : exq sa F N S rt cd208 P Q 189 L st h = (ivV F 175 3 7 st h fun r s h' => P 192 L (pu r s) h') := rfl
theorem e208_192 : exq sa F N S rt cd208 P Q 192 L st h = (tI st fun v s => s = [] ∧ (rt = some .int ∨ (rt = some .boolean ∧ (v = 0 ∨ v = 1))) ∧ Q (some (.int v)) h) := rfl
theorem e209_0 : exq sa F N S rt cd209 P Q 0 L st h = (ldI L 1 fun v => P 1 L (.int v :: st) h) := rfl
theorem e209_1 : exq sa F N S rt cd209 P Q 1 L st h = (P 2 L (.int (Int32.ofInt (0)) :: st) h) := rfl
theorem e209_2 : exq sa F N S rt cd209 P Q 2 L st h = (P 3 L (.int (Int32.ofInt (1)) :: st) h) := rfl
theorem e209_3 : exq sa F N S rt cd209 P Q 3 L st h = (ivS F 135 3 st h fun r s h' => P 6 L (pu r s) h') := rfl
theorem e209_6 : exq sa F N S rt cd209 P Q 6 L st h = (tI st fun a s => br (a = 0) (P 9 L s h) (P 12 L s h)) := rfl
theorem e209_9 : exq sa F N S rt cd209 P Q 9 L st h = (P 11 L (.int (Int32.ofInt (-1000001)) :: st) h) := rfl
theorem e209_11 : exq sa F N S rt cd209 P Q 11 L st h = (tI st fun v s => s = [] ∧ (rt = some .int ∨ (rt = some .boolean ∧ (v = 0 ∨ v = 1))) ∧ Q (some (.int v)) h) := rfl
theorem e209_12 : exq sa F N S rt cd209 P Q 12 L st h = (ldR L 0 fun v => P 13 L (v :: st) h) := rfl
theorem e209_13 : exq sa F N S rt cd209 P Q 13 L st h = (tR st fun a s => opt (hO h a 7) fun fs => opt (fs[15]?) fun v => P 16 L (v :: s) h) := rfl
theorem e209_16 : exq sa F N S rt cd209 P Q 16 L st h = (tI st fun a s => br (a = 0) (P 19 L s h) (P 22 L s h)) := rfl
theorem e209_19 : exq sa F N S rt cd209 P Q 19 L st h = (P 21 L (.int (Int32.ofInt (-1000002)) :: st) h) := rfl
theorem e209_21 : exq sa F N S rt cd209 P Q 21 L st h = (tI st fun v s => s = [] ∧ (rt = some .int ∨ (rt = some .boolean ∧ (v = 0 ∨ v = 1))) ∧ Q (some (.int v)) h) := rfl
theorem e209_22 : exq sa F N S rt cd209 P Q 22 L st h = (ldR L 0 fun v => P 23 L (v :: st) h) := rfl
theorem e209_23 : exq sa F N S rt cd209 P Q 23 L st h = (tR st fun a s => opt (hO h a 7) fun fs => opt (fs[24]?) fun v => P 26 L (v :: s) h) := rfl
theorem e209_26 : exq sa F N S rt cd209 P Q 26 L st h = (ldI L 1 fun v => P 27 L (.int v :: st) h) := rfl
theorem e209_27 : exq sa F N S rt cd209 P Q 27 L st h = (P 28 L (.int (Int32.ofInt (1)) :: st) h) := rfl
theorem e209_28 : exq sa F N S rt cd209 P Q 28 L st h = (tI st fun v s => tI s fun i s => tR s fun a s => opt (hB h a) fun q => ix i q.1 fun k => P 29 L s (hS h a (.inl (1, q.1, .inl (upd q.2 k (vp_nar .boolean v)))))) := rfl
theorem e209_29 : exq sa F N S rt cd209 P Q 29 L st h = (P 30 L (.int (Int32.ofInt (0)) :: st) h) := rfl
theorem e209_30 : exq sa F N S rt cd209 P Q 30 L st h = (tI st fun v s => lvS L 2 (.int v) fun L' => P 31 L' s h) := rfl
theorem e209_31 : exq sa F N S rt cd209 P Q 31 L st h = (ldI L 2 fun v => P 32 L (.int v :: st) h) := rfl
theorem e209_32 : exq sa F N S rt cd209 P Q 32 L st h = (P 34 L (.int (Int32.ofInt (15)) :: st) h) := rfl
theorem e209_34 : exq sa F N S rt cd209 P Q 34 L st h = (tI st fun b s => tI s fun a s => br (b ≤ a) (P 60 L s h) (P 37 L s h)) := rfl
theorem e209_37 : exq sa F N S rt cd209 P Q 37 L st h = (ldR L 0 fun v => P 38 L (v :: st) h) := rfl
theorem e209_38 : exq sa F N S rt cd209 P Q 38 L st h = (tR st fun a s => opt (hO h a 7) fun fs => opt (fs[25]?) fun v => P 41 L (v :: s) h) := rfl
theorem e209_41 : exq sa F N S rt cd209 P Q 41 L st h = (P 43 L (.int (Int32.ofInt (15)) :: st) h) := rfl
theorem e209_43 : exq sa F N S rt cd209 P Q 43 L st h = (ldI L 1 fun v => P 44 L (.int v :: st) h) := rfl
theorem e209_44 : exq sa F N S rt cd209 P Q 44 L st h = (tI st fun b s => tI s fun a s => P 45 L (.int (a * b) :: s) h) := rfl
theorem e209_45 : exq sa F N S rt cd209 P Q 45 L st h = (ldI L 2 fun v => P 46 L (.int v :: st) h) := rfl
theorem e209_46 : exq sa F N S rt cd209 P Q 46 L st h = (tI st fun b s => tI s fun a s => P 47 L (.int (a + b) :: s) h) := rfl
theorem e209_47 : exq sa F N S rt cd209 P Q 47 L st h = (ldR L 0 fun v => P 48 L (v :: st) h) := rfl
theorem e209_48 : exq sa F N S rt cd209 P Q 48 L st h = (tR st fun a s => opt (hO h a 7) fun fs => opt (fs[16]?) fun v => P 51 L (v :: s) h) := rfl
theorem e209_51 : exq sa F N S rt cd209 P Q 51 L st h = (ldI L 2 fun v => P 52 L (.int v :: st) h) := rfl
theorem e209_52 : exq sa F N S rt cd209 P Q 52 L st h = (ald sa st h fun v s => P 53 L (.int v :: s) h) := rfl
theorem e209_53 : exq sa F N S rt cd209 P Q 53 L st h = (tI st fun v s => tI s fun i s => tR s fun a s => opt (hI h a) fun q => ix i q.1 fun k => P 54 L s (hS h a (.inl (0, q.1, .inl (upd q.2 k v))))) := rfl
theorem e209_54 : exq sa F N S rt cd209 P Q 54 L st h = (ldI L 2 fun v => lvS L 2 (.int (v + Int32.ofInt (1))) fun L' => P 57 L' st h) := rfl
theorem e209_57 : exq sa F N S rt cd209 P Q 57 L st h = (P 31 L st h) := rfl
theorem e209_60 : exq sa F N S rt cd209 P Q 60 L st h = (P 61 L (.int (Int32.ofInt (0)) :: st) h) := rfl
theorem e209_61 : exq sa F N S rt cd209 P Q 61 L st h = (tI st fun v s => lvS L 2 (.int v) fun L' => P 62 L' s h) := rfl
theorem e209_62 : exq sa F N S rt cd209 P Q 62 L st h = (ldI L 2 fun v => P 63 L (.int v :: st) h) := rfl
theorem e209_63 : exq sa F N S rt cd209 P Q 63 L st h = (P 65 L (.int (Int32.ofInt (34)) :: st) h) := rfl
theorem e209_65 : exq sa F N S rt cd209 P Q 65 L st h = (tI st fun b s => tI s fun a s => br (b ≤ a) (P 91 L s h) (P 68 L s h)) := rfl
theorem e209_68 : exq sa F N S rt cd209 P Q 68 L st h = (ldR L 0 fun v => P 69 L (v :: st) h) := rfl
theorem e209_69 : exq sa F N S rt cd209 P Q 69 L st h = (tR st fun a s => opt (hO h a 7) fun fs => opt (fs[26]?) fun v => P 72 L (v :: s) h) := rfl
theorem e209_72 : exq sa F N S rt cd209 P Q 72 L st h = (P 74 L (.int (Int32.ofInt (34)) :: st) h) := rfl
theorem e209_74 : exq sa F N S rt cd209 P Q 74 L st h = (ldI L 1 fun v => P 75 L (.int v :: st) h) := rfl
theorem e209_75 : exq sa F N S rt cd209 P Q 75 L st h = (tI st fun b s => tI s fun a s => P 76 L (.int (a * b) :: s) h) := rfl
theorem e209_76 : exq sa F N S rt cd209 P Q 76 L st h = (ldI L 2 fun v => P 77 L (.int v :: st) h) := rfl
theorem e209_77 : exq sa F N S rt cd209 P Q 77 L st h = (tI st fun b s => tI s fun a s => P 78 L (.int (a + b) :: s) h) := rfl
theorem e209_78 : exq sa F N S rt cd209 P Q 78 L st h = (ldR L 0 fun v => P 79 L (v :: st) h) := rfl
theorem e209_79 : exq sa F N S rt cd209 P Q 79 L st h = (tR st fun a s => opt (hO h a 7) fun fs => opt (fs[17]?) fun v => P 82 L (v :: s) h) := rfl
theorem e209_82 : exq sa F N S rt cd209 P Q 82 L st h = (ldI L 2 fun v => P 83 L (.int v :: st) h) := rfl
theorem e209_83 : exq sa F N S rt cd209 P Q 83 L st h = (ald sa st h fun v s => P 84 L (.int v :: s) h) := rfl
theorem e209_84 : exq sa F N S rt cd209 P Q 84 L st h = (tI st fun v s => tI s fun i s => tR s fun a s => opt (hI h a) fun q => ix i q.1 fun k => P 85 L s (hS h a (.inl (0, q.1, .inl (upd q.2 k v))))) := rfl
theorem e209_85 : exq sa F N S rt cd209 P Q 85 L st h = (ldI L 2 fun v => lvS L 2 (.int (v + Int32.ofInt (1))) fun L' => P 88 L' st h) := rfl
theorem e209_88 : exq sa F N S rt cd209 P Q 88 L st h = (P 62 L st h) := rfl
theorem e209_91 : exq sa F N S rt cd209 P Q 91 L st h = (P 92 L (.int (Int32.ofInt (1)) :: st) h) := rfl
theorem e209_92 : exq sa F N S rt cd209 P Q 92 L st h = (tI st fun v s => s = [] ∧ (rt = some .int ∨ (rt = some .boolean ∧ (v = 0 ∨ v = 1))) ∧ Q (some (.int v)) h) := rfl
theorem e210_0 : exq sa F N S rt cd210 P Q 0 L st h = (ldI L 1 fun v => P 1 L (.int v :: st) h) := rfl
theorem e210_1 : exq sa F N S rt cd210 P Q 1 L st h = (P 2 L (.int (Int32.ofInt (0)) :: st) h) := rfl
theorem e210_2 : exq sa F N S rt cd210 P Q 2 L st h = (P 3 L (.int (Int32.ofInt (1)) :: st) h) := rfl
theorem e210_3 : exq sa F N S rt cd210 P Q 3 L st h = (ivS F 135 3 st h fun r s h' => P 6 L (pu r s) h') := rfl
theorem e210_6 : exq sa F N S rt cd210 P Q 6 L st h = (tI st fun a s => br (a = 0) (P 9 L s h) (P 12 L s h)) := rfl
theorem e210_9 : exq sa F N S rt cd210 P Q 9 L st h = (P 11 L (.int (Int32.ofInt (-1000001)) :: st) h) := rfl
theorem e210_11 : exq sa F N S rt cd210 P Q 11 L st h = (tI st fun v s => s = [] ∧ (rt = some .int ∨ (rt = some .boolean ∧ (v = 0 ∨ v = 1))) ∧ Q (some (.int v)) h) := rfl
theorem e210_12 : exq sa F N S rt cd210 P Q 12 L st h = (ldR L 0 fun v => P 13 L (v :: st) h) := rfl
theorem e210_13 : exq sa F N S rt cd210 P Q 13 L st h = (tR st fun a s => opt (hO h a 7) fun fs => opt (fs[24]?) fun v => P 16 L (v :: s) h) := rfl
theorem e210_16 : exq sa F N S rt cd210 P Q 16 L st h = (ldI L 1 fun v => P 17 L (.int v :: st) h) := rfl
theorem e210_17 : exq sa F N S rt cd210 P Q 17 L st h = (tI st fun i s => tR s fun a s => opt (hB h a) fun q => ix i q.1 fun k => P 18 L (.int (q.2 k) :: s) h) := rfl
theorem e210_18 : exq sa F N S rt cd210 P Q 18 L st h = (tI st fun a s => br (a = 0) (P 21 L s h) (P 24 L s h)) := rfl
theorem e210_21 : exq sa F N S rt cd210 P Q 21 L st h = (P 23 L (.int (Int32.ofInt (-1000002)) :: st) h) := rfl
theorem e210_23 : exq sa F N S rt cd210 P Q 23 L st h = (tI st fun v s => s = [] ∧ (rt = some .int ∨ (rt = some .boolean ∧ (v = 0 ∨ v = 1))) ∧ Q (some (.int v)) h) := rfl
theorem e210_24 : exq sa F N S rt cd210 P Q 24 L st h = (ldR L 0 fun v => P 25 L (v :: st) h) := rfl
theorem e210_25 : exq sa F N S rt cd210 P Q 25 L st h = (P 26 L (.int (Int32.ofInt (0)) :: st) h) := rfl
theorem e210_26 : exq sa F N S rt cd210 P Q 26 L st h = (pfd st h 7 20 0 fun s h' => P 29 L s h') := rfl
theorem e210_29 : exq sa F N S rt cd210 P Q 29 L st h = (P 30 L (.int (Int32.ofInt (0)) :: st) h) := rfl
theorem e210_30 : exq sa F N S rt cd210 P Q 30 L st h = (tI st fun v s => lvS L 2 (.int v) fun L' => P 31 L' s h) := rfl
theorem e210_31 : exq sa F N S rt cd210 P Q 31 L st h = (ldI L 2 fun v => P 32 L (.int v :: st) h) := rfl
theorem e210_32 : exq sa F N S rt cd210 P Q 32 L st h = (P 34 L (.int (Int32.ofInt (15)) :: st) h) := rfl
theorem e210_34 : exq sa F N S rt cd210 P Q 34 L st h = (tI st fun b s => tI s fun a s => br (b ≤ a) (P 60 L s h) (P 37 L s h)) := rfl
theorem e210_37 : exq sa F N S rt cd210 P Q 37 L st h = (ldR L 0 fun v => P 38 L (v :: st) h) := rfl
theorem e210_38 : exq sa F N S rt cd210 P Q 38 L st h = (tR st fun a s => opt (hO h a 7) fun fs => opt (fs[16]?) fun v => P 41 L (v :: s) h) := rfl
theorem e210_41 : exq sa F N S rt cd210 P Q 41 L st h = (ldI L 2 fun v => P 42 L (.int v :: st) h) := rfl
theorem e210_42 : exq sa F N S rt cd210 P Q 42 L st h = (ldR L 0 fun v => P 43 L (v :: st) h) := rfl
theorem e210_43 : exq sa F N S rt cd210 P Q 43 L st h = (tR st fun a s => opt (hO h a 7) fun fs => opt (fs[25]?) fun v => P 46 L (v :: s) h) := rfl
theorem e210_46 : exq sa F N S rt cd210 P Q 46 L st h = (P 48 L (.int (Int32.ofInt (15)) :: st) h) := rfl
theorem e210_48 : exq sa F N S rt cd210 P Q 48 L st h = (ldI L 1 fun v => P 49 L (.int v :: st) h) := rfl
theorem e210_49 : exq sa F N S rt cd210 P Q 49 L st h = (tI st fun b s => tI s fun a s => P 50 L (.int (a * b) :: s) h) := rfl
theorem e210_50 : exq sa F N S rt cd210 P Q 50 L st h = (ldI L 2 fun v => P 51 L (.int v :: st) h) := rfl
theorem e210_51 : exq sa F N S rt cd210 P Q 51 L st h = (tI st fun b s => tI s fun a s => P 52 L (.int (a + b) :: s) h) := rfl
theorem e210_52 : exq sa F N S rt cd210 P Q 52 L st h = (ald sa st h fun v s => P 53 L (.int v :: s) h) := rfl
theorem e210_53 : exq sa F N S rt cd210 P Q 53 L st h = (tI st fun v s => tI s fun i s => tR s fun a s => opt (hI h a) fun q => ix i q.1 fun k => P 54 L s (hS h a (.inl (0, q.1, .inl (upd q.2 k v))))) := rfl
theorem e210_54 : exq sa F N S rt cd210 P Q 54 L st h = (ldI L 2 fun v => lvS L 2 (.int (v + Int32.ofInt (1))) fun L' => P 57 L' st h) := rfl
theorem e210_57 : exq sa F N S rt cd210 P Q 57 L st h = (P 31 L st h) := rfl
theorem e210_60 : exq sa F N S rt cd210 P Q 60 L st h = (P 61 L (.int (Int32.ofInt (0)) :: st) h) := rfl
theorem e210_61 : exq sa F N S rt cd210 P Q 61 L st h = (tI st fun v s => lvS L 2 (.int v) fun L' => P 62 L' s h) := rfl
theorem e210_62 : exq sa F N S rt cd210 P Q 62 L st h = (ldI L 2 fun v => P 63 L (.int v :: st) h) := rfl
theorem e210_63 : exq sa F N S rt cd210 P Q 63 L st h = (P 65 L (.int (Int32.ofInt (34)) :: st) h) := rfl
theorem e210_65 : exq sa F N S rt cd210 P Q 65 L st h = (tI st fun b s => tI s fun a s => br (b ≤ a) (P 91 L s h) (P 68 L s h)) := rfl
theorem e210_68 : exq sa F N S rt cd210 P Q 68 L st h = (ldR L 0 fun v => P 69 L (v :: st) h) := rfl
theorem e210_69 : exq sa F N S rt cd210 P Q 69 L st h = (tR st fun a s => opt (hO h a 7) fun fs => opt (fs[17]?) fun v => P 72 L (v :: s) h) := rfl
theorem e210_72 : exq sa F N S rt cd210 P Q 72 L st h = (ldI L 2 fun v => P 73 L (.int v :: st) h) := rfl
theorem e210_73 : exq sa F N S rt cd210 P Q 73 L st h = (ldR L 0 fun v => P 74 L (v :: st) h) := rfl
theorem e210_74 : exq sa F N S rt cd210 P Q 74 L st h = (tR st fun a s => opt (hO h a 7) fun fs => opt (fs[26]?) fun v => P 77 L (v :: s) h) := rfl
theorem e210_77 : exq sa F N S rt cd210 P Q 77 L st h = (P 79 L (.int (Int32.ofInt (34)) :: st) h) := rfl
theorem e210_79 : exq sa F N S rt cd210 P Q 79 L st h = (ldI L 1 fun v => P 80 L (.int v :: st) h) := rfl
theorem e210_80 : exq sa F N S rt cd210 P Q 80 L st h = (tI st fun b s => tI s fun a s => P 81 L (.int (a * b) :: s) h) := rfl
theorem e210_81 : exq sa F N S rt cd210 P Q 81 L st h = (ldI L 2 fun v => P 82 L (.int v :: st) h) := rfl
theorem e210_82 : exq sa F N S rt cd210 P Q 82 L st h = (tI st fun b s => tI s fun a s => P 83 L (.int (a + b) :: s) h) := rfl
theorem e210_83 : exq sa F N S rt cd210 P Q 83 L st h = (ald sa st h fun v s => P 84 L (.int v :: s) h) := rfl
theorem e210_84 : exq sa F N S rt cd210 P Q 84 L st h = (tI st fun v s => tI s fun i s => tR s fun a s => opt (hI h a) fun q => ix i q.1 fun k => P 85 L s (hS h a (.inl (0, q.1, .inl (upd q.2 k v))))) := rfl
theorem e210_85 : exq sa F N S rt cd210 P Q 85 L st h = (ldI L 2 fun v => lvS L 2 (.int (v + Int32.ofInt (1))) fun L' => P 88 L' st h) := rfl
theorem e210_88 : exq sa F N S rt cd210 P Q 88 L st h = (P 62 L st h) := rfl
theorem e210_91 : exq sa F N S rt cd210 P Q 91 L st h = (P 92 L (.int (Int32.ofInt (1)) :: st) h) := rfl
theorem e210_92 : exq sa F N S rt cd210 P Q 92 L st h = (tI st fun v s => s = [] ∧ (rt = some .int ∨ (rt = some .boolean ∧ (v = 0 ∨ v = 1))) ∧ Q (some (.int v)) h) := rfl
theorem e211_0 : exq sa F N S rt cd211 P Q 0 L st h = (ldR L 0 fun v => P 1 L (v :: st) h) := rfl
theorem e211_1 : exq sa F N S rt cd211 P Q 1 L st h = (ldI L 1 fun v => P 2 L (.int v :: st) h) := rfl
theorem e211_2 : exq sa F N S rt cd211 P Q 2 L st h = (ivV F 162 2 7 st h fun r s h' => P 5 L (pu r s) h') := rfl
theorem e211_5 : exq sa F N S rt cd211 P Q 5 L st h = (tI st fun a s => br (a = 0) (P 19 L s h) (P 8 L s h)) := rfl
theorem e211_8 : exq sa F N S rt cd211 P Q 8 L st h = (ldR L 0 fun v => P 9 L (v :: st) h) := rfl
theorem e211_9 : exq sa F N S rt cd211 P Q 9 L st h = (tR st fun a s => opt (hO h a 7) fun fs => opt (fs[16]?) fun v => P 12 L (v :: s) h) := rfl
theorem e211_12 : exq sa F N S rt cd211 P Q 12 L st h = (P 13 L (.int (Int32.ofInt (4)) :: st) h) := rfl
theorem e211_13 : exq sa F N S rt cd211 P Q 13 L st h = (ldI L 1 fun v => P 14 L (.int v :: st) h) := rfl
theorem e211_14 : exq sa F N S rt cd211 P Q 14 L st h = (tI st fun b s => tI s fun a s => P 15 L (.int (a + b) :: s) h) := rfl
theorem e211_15 : exq sa F N S rt cd211 P Q 15 L st h = (ald sa st h fun v s => P 16 L (.int v :: s) h) := rfl
theorem e211_16 : exq sa F N S rt cd211 P Q 16 L st h = (P 21 L st h) := rfl
theorem e211_19 : exq sa F N S rt cd211 P Q 19 L st h = (P 21 L (.int (Int32.ofInt (-1000001)) :: st) h) := rfl
theorem e211_21 : exq sa F N S rt cd211 P Q 21 L st h = (tI st fun v s => s = [] ∧ (rt = some .int ∨ (rt = some .boolean ∧ (v = 0 ∨ v = 1))) ∧ Q (some (.int v)) h) := rfl
theorem e212_0 : exq sa F N S rt cd212 P Q 0 L st h = (ldR L 0 fun v => P 1 L (v :: st) h) := rfl
theorem e212_1 : exq sa F N S rt cd212 P Q 1 L st h = (ldI L 1 fun v => P 2 L (.int v :: st) h) := rfl
theorem e212_2 : exq sa F N S rt cd212 P Q 2 L st h = (ivV F 162 2 7 st h fun r s h' => P 5 L (pu r s) h') := rfl
theorem e212_5 : exq sa F N S rt cd212 P Q 5 L st h = (tI st fun a s => br (a = 0) (P 17 L s h) (P 8 L s h)) := rfl
theorem e212_8 : exq sa F N S rt cd212 P Q 8 L st h = (ldI L 2 fun v => P 9 L (.int v :: st) h) := rfl
theorem e212_9 : exq sa F N S rt cd212 P Q 9 L st h = (P 10 L (.int (Int32.ofInt (0)) :: st) h) := rfl
theorem e212_10 : exq sa F N S rt cd212 P Q 10 L st h = (P 11 L (.int (Int32.ofInt (5)) :: st) h) := rfl
theorem e212_11 : exq sa F N S rt cd212 P Q 11 L st h = (ivS F 135 3 st h fun r s h' => P 14 L (pu r s) h') := rfl
theorem e212_14 : exq sa F N S rt cd212 P Q 14 L st h = (tI st fun a s => br (a = 0) (P 17 L s h) (P 20 L s h)) := rfl
theorem e212_17 : exq sa F N S rt cd212 P Q 17 L st h = (P 19 L (.int (Int32.ofInt (-1000001)) :: st) h) := rfl
theorem e212_19 : exq sa F N S rt cd212 P Q 19 L st h = (tI st fun v s => s = [] ∧ (rt = some .int ∨ (rt = some .boolean ∧ (v = 0 ∨ v = 1))) ∧ Q (some (.int v)) h) := rfl
theorem e212_20 : exq sa F N S rt cd212 P Q 20 L st h = (ldR L 0 fun v => P 21 L (v :: st) h) := rfl
theorem e212_21 : exq sa F N S rt cd212 P Q 21 L st h = (tR st fun a s => opt (hO h a 7) fun fs => opt (fs[16]?) fun v => P 24 L (v :: s) h) := rfl
theorem e212_24 : exq sa F N S rt cd212 P Q 24 L st h = (P 25 L (.int (Int32.ofInt (4)) :: st) h) := rfl
theorem e212_25 : exq sa F N S rt cd212 P Q 25 L st h = (ldI L 1 fun v => P 26 L (.int v :: st) h) := rfl
theorem e212_26 : exq sa F N S rt cd212 P Q 26 L st h = (tI st fun b s => tI s fun a s => P 27 L (.int (a + b) :: s) h) := rfl
theorem e212_27 : exq sa F N S rt cd212 P Q 27 L st h = (ald sa st h fun v s => P 28 L (.int v :: s) h) := rfl
theorem e212_28 : exq sa F N S rt cd212 P Q 28 L st h = (tI st fun v s => lvS L 3 (.int v) fun L' => P 29 L' s h) := rfl
theorem e212_29 : exq sa F N S rt cd212 P Q 29 L st h = (ldI L 2 fun v => P 30 L (.int v :: st) h) := rfl
theorem e212_30 : exq sa F N S rt cd212 P Q 30 L st h = (tI st fun a s => br (a = 0) (P 63 L s h) (P 33 L s h)) := rfl
theorem e212_33 : exq sa F N S rt cd212 P Q 33 L st h = (ldI L 2 fun v => P 34 L (.int v :: st) h) := rfl
theorem e212_34 : exq sa F N S rt cd212 P Q 34 L st h = (ldI L 3 fun v => P 35 L (.int v :: st) h) := rfl
theorem e212_35 : exq sa F N S rt cd212 P Q 35 L st h = (tI st fun b s => tI s fun a s => br (a = b) (P 63 L s h) (P 38 L s h)) := rfl
theorem e212_38 : exq sa F N S rt cd212 P Q 38 L st h = (ldI L 2 fun v => P 39 L (.int v :: st) h) := rfl
theorem e212_39 : exq sa F N S rt cd212 P Q 39 L st h = (P 40 L (.int (Int32.ofInt (1)) :: st) h) := rfl
theorem e212_40 : exq sa F N S rt cd212 P Q 40 L st h = (tI st fun b s => tI s fun a s => br (a = b) (P 43 L s h) (P 53 L s h)) := rfl
theorem e212_43 : exq sa F N S rt cd212 P Q 43 L st h = (ldI L 3 fun v => P 44 L (.int v :: st) h) := rfl
theorem e212_44 : exq sa F N S rt cd212 P Q 44 L st h = (P 45 L (.int (Int32.ofInt (2)) :: st) h) := rfl
theorem e212_45 : exq sa F N S rt cd212 P Q 45 L st h = (tI st fun b s => tI s fun a s => br (a = b) (P 63 L s h) (P 48 L s h)) := rfl
theorem e212_48 : exq sa F N S rt cd212 P Q 48 L st h = (ldI L 3 fun v => P 49 L (.int v :: st) h) := rfl
theorem e212_49 : exq sa F N S rt cd212 P Q 49 L st h = (P 50 L (.int (Int32.ofInt (3)) :: st) h) := rfl
theorem e212_50 : exq sa F N S rt cd212 P Q 50 L st h = (tI st fun b s => tI s fun a s => br (a = b) (P 63 L s h) (P 53 L s h)) := rfl
theorem e212_53 : exq sa F N S rt cd212 P Q 53 L st h = (ldI L 2 fun v => P 54 L (.int v :: st) h) := rfl
theorem e212_54 : exq sa F N S rt cd212 P Q 54 L st h = (P 55 L (.int (Int32.ofInt (4)) :: st) h) := rfl
theorem e212_55 : exq sa F N S rt cd212 P Q 55 L st h = (tI st fun b s => tI s fun a s => br (a = b) (P 58 L s h) (P 67 L s h)) := rfl
theorem e212_58 : exq sa F N S rt cd212 P Q 58 L st h = (ldI L 3 fun v => P 59 L (.int v :: st) h) := rfl
theorem e212_59 : exq sa F N S rt cd212 P Q 59 L st h = (P 60 L (.int (Int32.ofInt (5)) :: st) h) := rfl
theorem e212_60 : exq sa F N S rt cd212 P Q 60 L st h = (tI st fun b s => tI s fun a s => br (a = b) (P 63 L s h) (P 67 L s h)) := rfl
theorem e212_63 : exq sa F N S rt cd212 P Q 63 L st h = (P 64 L (.int (Int32.ofInt (1)) :: st) h) := rfl
theorem e212_64 : exq sa F N S rt cd212 P Q 64 L st h = (P 68 L st h) := rfl
theorem e212_67 : exq sa F N S rt cd212 P Q 67 L st h = (P 68 L (.int (Int32.ofInt (0)) :: st) h) := rfl
theorem e212_68 : exq sa F N S rt cd212 P Q 68 L st h = (tI st fun v s => lvS L 4 (.int v) fun L' => P 70 L' s h) := rfl
theorem e212_70 : exq sa F N S rt cd212 P Q 70 L st h = (ldI L 4 fun v => P 72 L (.int v :: st) h) := rfl
theorem e212_72 : exq sa F N S rt cd212 P Q 72 L st h = (tI st fun a s => br (a = 0) (P 83 L s h) (P 75 L s h)) := rfl
theorem e212_75 : exq sa F N S rt cd212 P Q 75 L st h = (ldR L 0 fun v => P 76 L (v :: st) h) := rfl
theorem e212_76 : exq sa F N S rt cd212 P Q 76 L st h = (ldI L 1 fun v => P 77 L (.int v :: st) h) := rfl
theorem e212_77 : exq sa F N S rt cd212 P Q 77 L st h = (ivV F 139 2 7 st h fun r s h' => P 80 L (pu r s) h') := rfl
theorem e212_80 : exq sa F N S rt cd212 P Q 80 L st h = (P 88 L st h) := rfl
theorem e212_83 : exq sa F N S rt cd212 P Q 83 L st h = (ldR L 0 fun v => P 84 L (v :: st) h) := rfl
theorem e212_84 : exq sa F N S rt cd212 P Q 84 L st h = (P 85 L (.int (Int32.ofInt (3)) :: st) h) := rfl
theorem e212_85 : exq sa F N S rt cd212 P Q 85 L st h = (ivV F 138 2 7 st h fun r s h' => P 88 L (pu r s) h') := rfl
theorem e212_88 : exq sa F N S rt cd212 P Q 88 L st h = (tI st fun v s => s = [] ∧ (rt = some .int ∨ (rt = some .boolean ∧ (v = 0 ∨ v = 1))) ∧ Q (some (.int v)) h) := rfl
theorem e213_0 : exq sa F N S rt cd213 P Q 0 L st h = (ldR L 0 fun v => P 1 L (v :: st) h) := rfl
theorem e213_1 : exq sa F N S rt cd213 P Q 1 L st h = (tR st fun a s => opt (hO h a 7) fun fs => opt (fs[27]?) fun v => P 4 L (v :: s) h) := rfl
theorem e213_4 : exq sa F N S rt cd213 P Q 4 L st h = (P 6 L (.int (Int32.ofInt (16)) :: st) h) := rfl
theorem e213_6 : exq sa F N S rt cd213 P Q 6 L st h = (tI st fun b s => tI s fun a s => br (b ≤ a) (P 29 L s h) (P 9 L s h)) := rfl
theorem e213_9 : exq sa F N S rt cd213 P Q 9 L st h = (ldR L 0 fun v => P 10 L (v :: st) h) := rfl
theorem e213_10 : exq sa F N S rt cd213 P Q 10 L st h = (tR st fun a s => opt (hO h a 7) fun fs => opt (fs[28]?) fun v => P 13 L (v :: s) h) := rfl
theorem e213_13 : exq sa F N S rt cd213 P Q 13 L st h = (ldR L 0 fun v => P 14 L (v :: st) h) := rfl
theorem e213_14 : exq sa F N S rt cd213 P Q 14 L st h = (tR st fun a s => opt (hO h a 7) fun fs => opt (fs[27]?) fun v => P 17 L (v :: s) h) := rfl
theorem e213_17 : exq sa F N S rt cd213 P Q 17 L st h = (ldI L 1 fun v => P 18 L (.int v :: st) h) := rfl
theorem e213_18 : exq sa F N S rt cd213 P Q 18 L st h = (tI st fun v s => tI s fun i s => tR s fun a s => opt (hI h a) fun q => ix i q.1 fun k => P 19 L s (hS h a (.inl (0, q.1, .inl (upd q.2 k v))))) := rfl
theorem e213_19 : exq sa F N S rt cd213 P Q 19 L st h = (ldR L 0 fun v => P 20 L (v :: st) h) := rfl
theorem e213_20 : exq sa F N S rt cd213 P Q 20 L st h = (du1 st fun v s => P 21 L (v :: v :: s) h) := rfl
theorem e213_21 : exq sa F N S rt cd213 P Q 21 L st h = (tR st fun a s => opt (hO h a 7) fun fs => opt (fs[27]?) fun v => P 24 L (v :: s) h) := rfl
theorem e213_24 : exq sa F N S rt cd213 P Q 24 L st h = (P 25 L (.int (Int32.ofInt (1)) :: st) h) := rfl
theorem e213_25 : exq sa F N S rt cd213 P Q 25 L st h = (tI st fun b s => tI s fun a s => P 26 L (.int (a + b) :: s) h) := rfl
theorem e213_26 : exq sa F N S rt cd213 P Q 26 L st h = (pfd st h 7 27 0 fun s h' => P 29 L s h') := rfl
theorem e213_29 : exq sa F N S rt cd213 P Q 29 L st h = (st = [] ∧ rt = none ∧ Q none h) := rfl
theorem e214_0 : exq sa F N S rt cd214 P Q 0 L st h = (ldR L 0 fun v => P 1 L (v :: st) h) := rfl
theorem e214_1 : exq sa F N S rt cd214 P Q 1 L st h = (P 3 L (.int (Int32.ofInt (10)) :: st) h) := rfl
theorem e214_3 : exq sa F N S rt cd214 P Q 3 L st h = (ivV F 213 2 7 st h fun r s h' => P 6 L (pu r s) h') := rfl
theorem e214_6 : exq sa F N S rt cd214 P Q 6 L st h = (ldR L 0 fun v => P 7 L (v :: st) h) := rfl
theorem e214_7 : exq sa F N S rt cd214 P Q 7 L st h = (tR st fun a s => opt (hO h a 7) fun fs => opt (fs[17]?) fun v => P 10 L (v :: s) h) := rfl
theorem e214_10 : exq sa F N S rt cd214 P Q 10 L st h = (P 12 L (.int (Int32.ofInt (14)) :: st) h) := rfl
theorem e214_12 : exq sa F N S rt cd214 P Q 12 L st h = (ldI L 1 fun v => P 13 L (.int v :: st) h) := rfl
theorem e214_13 : exq sa F N S rt cd214 P Q 13 L st h = (tI st fun b s => tI s fun a s => P 14 L (.int (a + b) :: s) h) := rfl
theorem e214_14 : exq sa F N S rt cd214 P Q 14 L st h = (ald sa st h fun v s => P 15 L (.int v :: s) h) := rfl
theorem e214_15 : exq sa F N S rt cd214 P Q 15 L st h = (tI st fun v s => s = [] ∧ (rt = some .int ∨ (rt = some .boolean ∧ (v = 0 ∨ v = 1))) ∧ Q (some (.int v)) h) := rfl
theorem e215_0 : exq sa F N S rt cd215 P Q 0 L st h = (ldR L 0 fun v => P 1 L (v :: st) h) := rfl
theorem e215_1 : exq sa F N S rt cd215 P Q 1 L st h = (P 3 L (.int (Int32.ofInt (20)) :: st) h) := rfl
theorem e215_3 : exq sa F N S rt cd215 P Q 3 L st h = (ivV F 213 2 7 st h fun r s h' => P 6 L (pu r s) h') := rfl
theorem e215_6 : exq sa F N S rt cd215 P Q 6 L st h = (ldI L 1 fun v => P 7 L (.int v :: st) h) := rfl
theorem e215_7 : exq sa F N S rt cd215 P Q 7 L st h = (tI st fun v s => s = [] ∧ (rt = some .int ∨ (rt = some .boolean ∧ (v = 0 ∨ v = 1))) ∧ Q (some (.int v)) h) := rfl
theorem e216_0 : exq sa F N S rt cd216 P Q 0 L st h = (ldR L 0 fun v => P 1 L (v :: st) h) := rfl
theorem e216_1 : exq sa F N S rt cd216 P Q 1 L st h = (P 3 L (.int (Int32.ofInt (21)) :: st) h) := rfl
theorem e216_3 : exq sa F N S rt cd216 P Q 3 L st h = (ivV F 213 2 7 st h fun r s h' => P 6 L (pu r s) h') := rfl
theorem e216_6 : exq sa F N S rt cd216 P Q 6 L st h = (ldR L 0 fun v => P 7 L (v :: st) h) := rfl
theorem e216_7 : exq sa F N S rt cd216 P Q 7 L st h = (ldI L 1 fun v => P 8 L (.int v :: st) h) := rfl
theorem e216_8 : exq sa F N S rt cd216 P Q 8 L st h = (ivV F 215 2 7 st h fun r s h' => P 11 L (pu r s) h') := rfl
theorem e216_11 : exq sa F N S rt cd216 P Q 11 L st h = (ldR L 0 fun v => P 12 L (v :: st) h) := rfl
theorem e216_12 : exq sa F N S rt cd216 P Q 12 L st h = (tR st fun a s => opt (hO h a 7) fun fs => opt (fs[17]?) fun v => P 15 L (v :: s) h) := rfl
theorem e216_15 : exq sa F N S rt cd216 P Q 15 L st h = (P 17 L (.int (Int32.ofInt (19)) :: st) h) := rfl
theorem e216_17 : exq sa F N S rt cd216 P Q 17 L st h = (ldI L 1 fun v => P 18 L (.int v :: st) h) := rfl
theorem e216_18 : exq sa F N S rt cd216 P Q 18 L st h = (tI st fun b s => tI s fun a s => P 19 L (.int (a + b) :: s) h) := rfl
theorem e216_19 : exq sa F N S rt cd216 P Q 19 L st h = (ald sa st h fun v s => P 20 L (.int v :: s) h) := rfl
theorem e216_20 : exq sa F N S rt cd216 P Q 20 L st h = (tI st fun b s => tI s fun a s => P 21 L (.int (a + b) :: s) h) := rfl
theorem e216_21 : exq sa F N S rt cd216 P Q 21 L st h = (tI st fun v s => s = [] ∧ (rt = some .int ∨ (rt = some .boolean ∧ (v = 0 ∨ v = 1))) ∧ Q (some (.int v)) h) := rfl
theorem e217_0 : exq sa F N S rt cd217 P Q 0 L st h = (ldR L 0 fun v => P 1 L (v :: st) h) := rfl
theorem e217_1 : exq sa F N S rt cd217 P Q 1 L st h = (tR st fun a s => opt (hO h a 7) fun fs => opt (fs[16]?) fun v => P 4 L (v :: s) h) := rfl
theorem e217_4 : exq sa F N S rt cd217 P Q 4 L st h = (P 5 L (.int (Int32.ofInt (4)) :: st) h) := rfl
theorem e217_5 : exq sa F N S rt cd217 P Q 5 L st h = (ldI L 1 fun v => P 6 L (.int v :: st) h) := rfl
theorem e217_6 : exq sa F N S rt cd217 P Q 6 L st h = (tI st fun b s => tI s fun a s => P 7 L (.int (a + b) :: s) h) := rfl
theorem e217_7 : exq sa F N S rt cd217 P Q 7 L st h = (ald sa st h fun v s => P 8 L (.int v :: s) h) := rfl
theorem e217_8 : exq sa F N S rt cd217 P Q 8 L st h = (ex1 sa F N S rt P Q 8 L st h (.lookupswitch 58 #[(2, 28), (3, 42)]) 0 0 0 0) := rfl
theorem e217_36 : exq sa F N S rt cd217 P Q 36 L st h = (ldR L 0 fun v => P 37 L (v :: st) h) := rfl
theorem e217_37 : exq sa F N S rt cd217 P Q 37 L st h = (P 39 L (.int (Int32.ofInt (24)) :: st) h) := rfl
theorem e217_39 : exq sa F N S rt cd217 P Q 39 L st h = (ivV F 213 2 7 st h fun r s h' => P 42 L (pu r s) h') := rfl
theorem e217_42 : exq sa F N S rt cd217 P Q 42 L st h = (P 43 L (.int (Int32.ofInt (2)) :: st) h) := rfl
theorem e217_43 : exq sa F N S rt cd217 P Q 43 L st h = (ldR L 0 fun v => P 44 L (v :: st) h) := rfl
theorem e217_44 : exq sa F N S rt cd217 P Q 44 L st h = (ldI L 1 fun v => P 45 L (.int v :: st) h) := rfl
theorem e217_45 : exq sa F N S rt cd217 P Q 45 L st h = (ivV F 216 2 7 st h fun r s h' => P 48 L (pu r s) h') := rfl
theorem e217_48 : exq sa F N S rt cd217 P Q 48 L st h = (tI st fun b s => tI s fun a s => P 49 L (.int (a * b) :: s) h) := rfl
theorem e217_49 : exq sa F N S rt cd217 P Q 49 L st h = (tI st fun v s => s = [] ∧ (rt = some .int ∨ (rt = some .boolean ∧ (v = 0 ∨ v = 1))) ∧ Q (some (.int v)) h) := rfl
theorem e217_50 : exq sa F N S rt cd217 P Q 50 L st h = (ldR L 0 fun v => P 51 L (v :: st) h) := rfl
theorem e217_51 : exq sa F N S rt cd217 P Q 51 L st h = (P 53 L (.int (Int32.ofInt (22)) :: st) h) := rfl
theorem e217_53 : exq sa F N S rt cd217 P Q 53 L st h = (ivV F 213 2 7 st h fun r s h' => P 56 L (pu r s) h') := rfl
theorem e217_56 : exq sa F N S rt cd217 P Q 56 L st h = (ldR L 0 fun v => P 57 L (v :: st) h) := rfl
theorem e217_57 : exq sa F N S rt cd217 P Q 57 L st h = (ldI L 1 fun v => P 58 L (.int v :: st) h) := rfl
theorem e217_58 : exq sa F N S rt cd217 P Q 58 L st h = (ivV F 216 2 7 st h fun r s h' => P 61 L (pu r s) h') := rfl
theorem e217_61 : exq sa F N S rt cd217 P Q 61 L st h = (P 64 L (.int (Int32.ofInt (1000)) :: st) h) := rfl
theorem e217_64 : exq sa F N S rt cd217 P Q 64 L st h = (tI st fun b s => tI s fun a s => P 65 L (.int (a - b) :: s) h) := rfl
theorem e217_65 : exq sa F N S rt cd217 P Q 65 L st h = (tI st fun v s => s = [] ∧ (rt = some .int ∨ (rt = some .boolean ∧ (v = 0 ∨ v = 1))) ∧ Q (some (.int v)) h) := rfl
theorem e217_66 : exq sa F N S rt cd217 P Q 66 L st h = (ldR L 0 fun v => P 67 L (v :: st) h) := rfl
theorem e217_67 : exq sa F N S rt cd217 P Q 67 L st h = (ldI L 1 fun v => P 68 L (.int v :: st) h) := rfl
theorem e217_68 : exq sa F N S rt cd217 P Q 68 L st h = (ivV F 216 2 7 st h fun r s h' => P 71 L (pu r s) h') := rfl
theorem e217_71 : exq sa F N S rt cd217 P Q 71 L st h = (tI st fun v s => s = [] ∧ (rt = some .int ∨ (rt = some .boolean ∧ (v = 0 ∨ v = 1))) ∧ Q (some (.int v)) h) := rfl
theorem e218_0 : exq sa F N S rt cd218 P Q 0 L st h = (ldR L 0 fun v => P 1 L (v :: st) h) := rfl
theorem e218_1 : exq sa F N S rt cd218 P Q 1 L st h = (P 3 L (.int (Int32.ofInt (11)) :: st) h) := rfl
theorem e218_3 : exq sa F N S rt cd218 P Q 3 L st h = (ivV F 213 2 7 st h fun r s h' => P 6 L (pu r s) h') := rfl
theorem e218_6 : exq sa F N S rt cd218 P Q 6 L st h = (ldR L 0 fun v => P 7 L (v :: st) h) := rfl
theorem e218_7 : exq sa F N S rt cd218 P Q 7 L st h = (ldI L 1 fun v => P 8 L (.int v :: st) h) := rfl
theorem e218_8 : exq sa F N S rt cd218 P Q 8 L st h = (ivV F 214 2 7 st h fun r s h' => P 11 L (pu r s) h') := rfl
theorem e218_11 : exq sa F N S rt cd218 P Q 11 L st h = (tI st fun v s => lvS L 2 (.int v) fun L' => P 12 L' s h) := rfl
theorem e218_12 : exq sa F N S rt cd218 P Q 12 L st h = (ldI L 2 fun v => P 13 L (.int v :: st) h) := rfl
theorem e218_13 : exq sa F N S rt cd218 P Q 13 L st h = (ldR L 0 fun v => P 14 L (v :: st) h) := rfl
theorem e218_14 : exq sa F N S rt cd218 P Q 14 L st h = (ldI L 1 fun v => P 15 L (.int v :: st) h) := rfl
theorem e218_15 : exq sa F N S rt cd218 P Q 15 L st h = (ivV F 217 2 7 st h fun r s h' => P 18 L (pu r s) h') := rfl
theorem e218_18 : exq sa F N S rt cd218 P Q 18 L st h = (tI st fun b s => tI s fun a s => P 19 L (.int (a + b) :: s) h) := rfl
theorem e218_19 : exq sa F N S rt cd218 P Q 19 L st h = (tI st fun v s => s = [] ∧ (rt = some .int ∨ (rt = some .boolean ∧ (v = 0 ∨ v = 1))) ∧ Q (some (.int v)) h) := rfl
theorem e219_0 : exq sa F N S rt cd219 P Q 0 L st h = (ldR L 0 fun v => P 1 L (v :: st) h) := rfl
theorem e219_1 : exq sa F N S rt cd219 P Q 1 L st h = (P 3 L (.int (Int32.ofInt (13)) :: st) h) := rfl
theorem e219_3 : exq sa F N S rt cd219 P Q 3 L st h = (ivV F 213 2 7 st h fun r s h' => P 6 L (pu r s) h') := rfl
theorem e219_6 : exq sa F N S rt cd219 P Q 6 L st h = (ldR L 0 fun v => P 7 L (v :: st) h) := rfl
theorem e219_7 : exq sa F N S rt cd219 P Q 7 L st h = (ldI L 1 fun v => P 8 L (.int v :: st) h) := rfl
theorem e219_8 : exq sa F N S rt cd219 P Q 8 L st h = (ivV F 214 2 7 st h fun r s h' => P 11 L (pu r s) h') := rfl
theorem e219_11 : exq sa F N S rt cd219 P Q 11 L st h = (P 13 L (.int (Int32.ofInt (100)) :: st) h) := rfl
theorem e219_13 : exq sa F N S rt cd219 P Q 13 L st h = (tI st fun b s => tI s fun a s => P 14 L (.int (a - b) :: s) h) := rfl
theorem e219_14 : exq sa F N S rt cd219 P Q 14 L st h = (tI st fun v s => s = [] ∧ (rt = some .int ∨ (rt = some .boolean ∧ (v = 0 ∨ v = 1))) ∧ Q (some (.int v)) h) := rfl
theorem e220_0 : exq sa F N S rt cd220 P Q 0 L st h = (ldR L 0 fun v => P 1 L (v :: st) h) := rfl
theorem e220_1 : exq sa F N S rt cd220 P Q 1 L st h = (tR st fun a s => opt (hO h a 7) fun fs => opt (fs[16]?) fun v => P 4 L (v :: s) h) := rfl
theorem e220_4 : exq sa F N S rt cd220 P Q 4 L st h = (P 5 L (.int (Int32.ofInt (4)) :: st) h) := rfl
theorem e220_5 : exq sa F N S rt cd220 P Q 5 L st h = (ldI L 1 fun v => P 6 L (.int v :: st) h) := rfl
theorem e220_6 : exq sa F N S rt cd220 P Q 6 L st h = (tI st fun b s => tI s fun a s => P 7 L (.int (a + b) :: s) h) := rfl
theorem e220_7 : exq sa F N S rt cd220 P Q 7 L st h = (ald sa st h fun v s => P 8 L (.int v :: s) h) := rfl
theorem e220_8 : exq sa F N S rt cd220 P Q 8 L st h = (ex1 sa F N S rt P Q 8 L st h (.tableswitch 65 2 5 #[32, 65, 45, 51]) 0 0 0 0) := rfl
theorem e220_40 : exq sa F N S rt cd220 P Q 40 L st h = (ldR L 0 fun v => P 41 L (v :: st) h) := rfl
theorem e220_41 : exq sa F N S rt cd220 P Q 41 L st h = (P 43 L (.int (Int32.ofInt (12)) :: st) h) := rfl
theorem e220_43 : exq sa F N S rt cd220 P Q 43 L st h = (ivV F 213 2 7 st h fun r s h' => P 46 L (pu r s) h') := rfl
theorem e220_46 : exq sa F N S rt cd220 P Q 46 L st h = (ldR L 0 fun v => P 47 L (v :: st) h) := rfl
theorem e220_47 : exq sa F N S rt cd220 P Q 47 L st h = (ldI L 1 fun v => P 48 L (.int v :: st) h) := rfl
theorem e220_48 : exq sa F N S rt cd220 P Q 48 L st h = (ivV F 218 2 7 st h fun r s h' => P 51 L (pu r s) h') := rfl
theorem e220_51 : exq sa F N S rt cd220 P Q 51 L st h = (tI st fun a s => P 52 L (.int (-a) :: s) h) := rfl
theorem e220_52 : exq sa F N S rt cd220 P Q 52 L st h = (tI st fun v s => s = [] ∧ (rt = some .int ∨ (rt = some .boolean ∧ (v = 0 ∨ v = 1))) ∧ Q (some (.int v)) h) := rfl
theorem e220_53 : exq sa F N S rt cd220 P Q 53 L st h = (ldR L 0 fun v => P 54 L (v :: st) h) := rfl
theorem e220_54 : exq sa F N S rt cd220 P Q 54 L st h = (ldI L 1 fun v => P 55 L (.int v :: st) h) := rfl
theorem e220_55 : exq sa F N S rt cd220 P Q 55 L st h = (ivV F 219 2 7 st h fun r s h' => P 58 L (pu r s) h') := rfl
theorem e220_58 : exq sa F N S rt cd220 P Q 58 L st h = (tI st fun v s => s = [] ∧ (rt = some .int ∨ (rt = some .boolean ∧ (v = 0 ∨ v = 1))) ∧ Q (some (.int v)) h) := rfl
theorem e220_59 : exq sa F N S rt cd220 P Q 59 L st h = (ldR L 0 fun v => P 60 L (v :: st) h) := rfl
theorem e220_60 : exq sa F N S rt cd220 P Q 60 L st h = (P 62 L (.int (Int32.ofInt (14)) :: st) h) := rfl
theorem e220_62 : exq sa F N S rt cd220 P Q 62 L st h = (ivV F 213 2 7 st h fun r s h' => P 65 L (pu r s) h') := rfl
theorem e220_65 : exq sa F N S rt cd220 P Q 65 L st h = (P 66 L (.int (Int32.ofInt (2)) :: st) h) := rfl
theorem e220_66 : exq sa F N S rt cd220 P Q 66 L st h = (ldR L 0 fun v => P 67 L (v :: st) h) := rfl
theorem e220_67 : exq sa F N S rt cd220 P Q 67 L st h = (ldI L 1 fun v => P 68 L (.int v :: st) h) := rfl
theorem e220_68 : exq sa F N S rt cd220 P Q 68 L st h = (ivV F 219 2 7 st h fun r s h' => P 71 L (pu r s) h') := rfl
theorem e220_71 : exq sa F N S rt cd220 P Q 71 L st h = (tI st fun b s => tI s fun a s => P 72 L (.int (a * b) :: s) h) := rfl
theorem e220_72 : exq sa F N S rt cd220 P Q 72 L st h = (tI st fun v s => s = [] ∧ (rt = some .int ∨ (rt = some .boolean ∧ (v = 0 ∨ v = 1))) ∧ Q (some (.int v)) h) := rfl
theorem e220_73 : exq sa F N S rt cd220 P Q 73 L st h = (ldR L 0 fun v => P 74 L (v :: st) h) := rfl
theorem e220_74 : exq sa F N S rt cd220 P Q 74 L st h = (ldI L 1 fun v => P 75 L (.int v :: st) h) := rfl
theorem e220_75 : exq sa F N S rt cd220 P Q 75 L st h = (ivV F 218 2 7 st h fun r s h' => P 78 L (pu r s) h') := rfl
theorem e220_78 : exq sa F N S rt cd220 P Q 78 L st h = (tI st fun v s => s = [] ∧ (rt = some .int ∨ (rt = some .boolean ∧ (v = 0 ∨ v = 1))) ∧ Q (some (.int v)) h) := rfl
theorem e221_0 : exq sa F N S rt cd221 P Q 0 L st h = (ldR L 0 fun v => P 1 L (v :: st) h) := rfl
theorem e221_1 : exq sa F N S rt cd221 P Q 1 L st h = (tR st fun a s => opt (hO h a 7) fun fs => opt (fs[16]?) fun v => P 4 L (v :: s) h) := rfl
theorem e221_4 : exq sa F N S rt cd221 P Q 4 L st h = (P 5 L (.int (Int32.ofInt (4)) :: st) h) := rfl
theorem e221_5 : exq sa F N S rt cd221 P Q 5 L st h = (ldI L 1 fun v => P 6 L (.int v :: st) h) := rfl
theorem e221_6 : exq sa F N S rt cd221 P Q 6 L st h = (tI st fun b s => tI s fun a s => P 7 L (.int (a + b) :: s) h) := rfl
theorem e221_7 : exq sa F N S rt cd221 P Q 7 L st h = (ald sa st h fun v s => P 8 L (.int v :: s) h) := rfl
theorem e221_8 : exq sa F N S rt cd221 P Q 8 L st h = (P 9 L (.int (Int32.ofInt (4)) :: st) h) := rfl
theorem e221_9 : exq sa F N S rt cd221 P Q 9 L st h = (tI st fun b s => tI s fun a s => br (b ≤ a) (P 18 L s h) (P 12 L s h)) := rfl
theorem e221_12 : exq sa F N S rt cd221 P Q 12 L st h = (ldR L 0 fun v => P 13 L (v :: st) h) := rfl
theorem e221_13 : exq sa F N S rt cd221 P Q 13 L st h = (ldI L 1 fun v => P 14 L (.int v :: st) h) := rfl
theorem e221_14 : exq sa F N S rt cd221 P Q 14 L st h = (ivV F 217 2 7 st h fun r s h' => P 17 L (pu r s) h') := rfl
theorem e221_17 : exq sa F N S rt cd221 P Q 17 L st h = (tI st fun v s => s = [] ∧ (rt = some .int ∨ (rt = some .boolean ∧ (v = 0 ∨ v = 1))) ∧ Q (some (.int v)) h) := rfl
theorem e221_18 : exq sa F N S rt cd221 P Q 18 L st h = (ldR L 0 fun v => P 19 L (v :: st) h) := rfl
theorem e221_19 : exq sa F N S rt cd221 P Q 19 L st h = (P 21 L (.int (Int32.ofInt (23)) :: st) h) := rfl
theorem e221_21 : exq sa F N S rt cd221 P Q 21 L st h = (ivV F 213 2 7 st h fun r s h' => P 24 L (pu r s) h') := rfl
theorem e221_24 : exq sa F N S rt cd221 P Q 24 L st h = (ldR L 0 fun v => P 25 L (v :: st) h) := rfl
theorem e221_25 : exq sa F N S rt cd221 P Q 25 L st h = (ldI L 1 fun v => P 26 L (.int v :: st) h) := rfl
theorem e221_26 : exq sa F N S rt cd221 P Q 26 L st h = (ivV F 215 2 7 st h fun r s h' => P 29 L (pu r s) h') := rfl
theorem e221_29 : exq sa F N S rt cd221 P Q 29 L st h = (tI st fun v s => lvS L 2 (.int v) fun L' => P 30 L' s h) := rfl
theorem e221_30 : exq sa F N S rt cd221 P Q 30 L st h = (ldI L 2 fun v => P 31 L (.int v :: st) h) := rfl
theorem e221_31 : exq sa F N S rt cd221 P Q 31 L st h = (ldR L 0 fun v => P 32 L (v :: st) h) := rfl
theorem e221_32 : exq sa F N S rt cd221 P Q 32 L st h = (ldI L 1 fun v => P 33 L (.int v :: st) h) := rfl
theorem e221_33 : exq sa F N S rt cd221 P Q 33 L st h = (ivV F 220 2 7 st h fun r s h' => P 36 L (pu r s) h') := rfl
theorem e221_36 : exq sa F N S rt cd221 P Q 36 L st h = (tI st fun b s => tI s fun a s => P 37 L (.int (a - b) :: s) h) := rfl
theorem e221_37 : exq sa F N S rt cd221 P Q 37 L st h = (tI st fun v s => s = [] ∧ (rt = some .int ∨ (rt = some .boolean ∧ (v = 0 ∨ v = 1))) ∧ Q (some (.int v)) h) := rfl
theorem e222_0 : exq sa F N S rt cd222 P Q 0 L st h = (ldR L 0 fun v => P 1 L (v :: st) h) := rfl
theorem e222_1 : exq sa F N S rt cd222 P Q 1 L st h = (ldI L 1 fun v => P 2 L (.int v :: st) h) := rfl
theorem e222_2 : exq sa F N S rt cd222 P Q 2 L st h = (ivV F 162 2 7 st h fun r s h' => P 5 L (pu r s) h') := rfl
theorem e222_5 : exq sa F N S rt cd222 P Q 5 L st h = (tI st fun a s => br (a = 0) (P 17 L s h) (P 8 L s h)) := rfl
theorem e222_8 : exq sa F N S rt cd222 P Q 8 L st h = (ldI L 2 fun v => P 9 L (.int v :: st) h) := rfl
theorem e222_9 : exq sa F N S rt cd222 P Q 9 L st h = (P 10 L (.int (Int32.ofInt (0)) :: st) h) := rfl
theorem e222_10 : exq sa F N S rt cd222 P Q 10 L st h = (P 11 L (.int (Int32.ofInt (1)) :: st) h) := rfl
theorem e222_11 : exq sa F N S rt cd222 P Q 11 L st h = (ivS F 135 3 st h fun r s h' => P 14 L (pu r s) h') := rfl
theorem e222_14 : exq sa F N S rt cd222 P Q 14 L st h = (tI st fun a s => br (a = 0) (P 17 L s h) (P 20 L s h)) := rfl
theorem e222_17 : exq sa F N S rt cd222 P Q 17 L st h = (P 19 L (.int (Int32.ofInt (-1000001)) :: st) h) := rfl
theorem e222_19 : exq sa F N S rt cd222 P Q 19 L st h = (tI st fun v s => s = [] ∧ (rt = some .int ∨ (rt = some .boolean ∧ (v = 0 ∨ v = 1))) ∧ Q (some (.int v)) h) := rfl
theorem e222_20 : exq sa F N S rt cd222 P Q 20 L st h = (ldR L 0 fun v => P 21 L (v :: st) h) := rfl
theorem e222_21 : exq sa F N S rt cd222 P Q 21 L st h = (P 22 L (.int (Int32.ofInt (0)) :: st) h) := rfl
theorem e222_22 : exq sa F N S rt cd222 P Q 22 L st h = (pfd st h 7 27 0 fun s h' => P 25 L s h') := rfl
theorem e222_25 : exq sa F N S rt cd222 P Q 25 L st h = (ldI L 2 fun v => P 26 L (.int v :: st) h) := rfl
theorem e222_26 : exq sa F N S rt cd222 P Q 26 L st h = (tI st fun a s => br (a = 0) (P 29 L s h) (P 37 L s h)) := rfl
theorem e222_29 : exq sa F N S rt cd222 P Q 29 L st h = (ldR L 0 fun v => P 30 L (v :: st) h) := rfl
theorem e222_30 : exq sa F N S rt cd222 P Q 30 L st h = (ldI L 1 fun v => P 31 L (.int v :: st) h) := rfl
theorem e222_31 : exq sa F N S rt cd222 P Q 31 L st h = (ivV F 220 2 7 st h fun r s h' => P 34 L (pu r s) h') := rfl
theorem e222_34 : exq sa F N S rt cd222 P Q 34 L st h = (P 42 L st h) := rfl
theorem e222_37 : exq sa F N S rt cd222 P Q 37 L st h = (ldR L 0 fun v => P 38 L (v :: st) h) := rfl
theorem e222_38 : exq sa F N S rt cd222 P Q 38 L st h = (ldI L 1 fun v => P 39 L (.int v :: st) h) := rfl
theorem e222_39 : exq sa F N S rt cd222 P Q 39 L st h = (ivV F 221 2 7 st h fun r s h' => P 42 L (pu r s) h') := rfl
theorem e222_42 : exq sa F N S rt cd222 P Q 42 L st h = (tI st fun v s => s = [] ∧ (rt = some .int ∨ (rt = some .boolean ∧ (v = 0 ∨ v = 1))) ∧ Q (some (.int v)) h) := rfl
theorem e223_0 : exq sa F N S rt cd223 P Q 0 L st h = (ldI L 1 fun v => P 1 L (.int v :: st) h) := rfl
theorem e223_1 : exq sa F N S rt cd223 P Q 1 L st h = (P 2 L (.int (Int32.ofInt (0)) :: st) h) := rfl
theorem e223_2 : exq sa F N S rt cd223 P Q 2 L st h = (ldR L 0 fun v => P 3 L (v :: st) h) := rfl
theorem e223_3 : exq sa F N S rt cd223 P Q 3 L st h = (tR st fun a s => opt (hO h a 7) fun fs => opt (fs[27]?) fun v => P 6 L (v :: s) h) := rfl
theorem e223_6 : exq sa F N S rt cd223 P Q 6 L st h = (P 7 L (.int (Int32.ofInt (1)) :: st) h) := rfl
theorem e223_7 : exq sa F N S rt cd223 P Q 7 L st h = (tI st fun b s => tI s fun a s => P 8 L (.int (a - b) :: s) h) := rfl
theorem e223_8 : exq sa F N S rt cd223 P Q 8 L st h = (ivS F 135 3 st h fun r s h' => P 11 L (pu r s) h') := rfl
theorem e223_11 : exq sa F N S rt cd223 P Q 11 L st h = (tI st fun a s => br (a = 0) (P 23 L s h) (P 14 L s h)) := rfl
theorem e223_14 : exq sa F N S rt cd223 P Q 14 L st h = (ldR L 0 fun v => P 15 L (v :: st) h) := rfl
theorem e223_15 : exq sa F N S rt cd223 P Q 15 L st h = (tR st fun a s => opt (hO h a 7) fun fs => opt (fs[28]?) fun v => P 18 L (v :: s) h) := rfl
theorem e223_18 : exq sa F N S rt cd223 P Q 18 L st h = (ldI L 1 fun v => P 19 L (.int v :: st) h) := rfl
theorem e223_19 : exq sa F N S rt cd223 P Q 19 L st h = (ald sa st h fun v s => P 20 L (.int v :: s) h) := rfl
theorem e223_20 : exq sa F N S rt cd223 P Q 20 L st h = (P 25 L st h) := rfl
theorem e223_23 : exq sa F N S rt cd223 P Q 23 L st h = (P 25 L (.int (Int32.ofInt (-1000000)) :: st) h) := rfl
theorem e223_25 : exq sa F N S rt cd223 P Q 25 L st h = (tI st fun v s => s = [] ∧ (rt = some .int ∨ (rt = some .boolean ∧ (v = 0 ∨ v = 1))) ∧ Q (some (.int v)) h) := rfl
end EL
